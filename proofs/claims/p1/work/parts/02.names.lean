def RX0 : String := "Sharedair$Frame"
def TX0 : u_T := fun k => match k with
  | 0 => ("Sharedair$Frame", "from", "I", false)
  | 1 => ("Sharedair$Frame", "to", "I", false)
  | 2 => ("Sharedair$Frame", "length", "I", false)
  | 3 => ("Sharedair$Frame", "number", "I", false)
  | _ => ("Sharedair$Frame", "hops", "I", false)
def tyX0 : Nat → FieldType := fun k => match k with
  | 0 => .int
  | 1 => .int
  | 2 => .int
  | 3 => .int
  | _ => .int
theorem nmX0 : ∀ a, a < 5 → ∀ b, b < 5 → a ≠ b → (TX0 a).2.1 ≠ (TX0 b).2.1 := by decide +kernel
theorem tyX0_ok : ∀ k, k < 5 → parseFieldDescriptor (TX0 k).2.2.1 = some (tyX0 k) := by decide +kernel
abbrev cX0_init : ByteArray := prog_2_method_1_code
def yX0_init : MethodName := ⟨RX0, "<init>", "()V"⟩
def RX1 : String := "Sharedair$FrameQueue"
def TX1 : u_T := fun k => match k with
  | 0 => ("Sharedair$FrameQueue", "frames", "[LSharedair$Frame;", true)
  | _ => ("Sharedair$FrameQueue", "size", "I", false)
def tyX1 : Nat → FieldType := fun k => match k with
  | 0 => .array (.object "Sharedair$Frame")
  | _ => .int
theorem nmX1 : ∀ a, a < 2 → ∀ b, b < 2 → a ≠ b → (TX1 a).2.1 ≠ (TX1 b).2.1 := by decide +kernel
theorem tyX1_ok : ∀ k, k < 2 → parseFieldDescriptor (TX1 k).2.2.1 = some (tyX1 k) := by decide +kernel
abbrev cX1_init : ByteArray := prog_3_method_1_code
def yX1_init : MethodName := ⟨RX1, "<init>", "()V"⟩
abbrev cX1_at : ByteArray := prog_3_method_2_code
def yX1_at : MethodName := ⟨RX1, "at", "(I)LSharedair$Frame;"⟩
abbrev cX1_add : ByteArray := prog_3_method_3_code
def yX1_add : MethodName := ⟨RX1, "add", "(IIIII)Z"⟩
abbrev cX1_removeFirst : ByteArray := prog_3_method_4_code
def yX1_removeFirst : MethodName := ⟨RX1, "removeFirst", "()V"⟩
def RX2 : String := "Sharedair$Land"
def TX2 : u_T := fun k => match k with
  | 0 => ("Sharedair$Land", "nodes", "[LSharedair$Node;", true)
  | 1 => ("Sharedair$Land", "hearers", "[I", true)
  | _ => ("Sharedair$Land", "count", "I", false)
def tyX2 : Nat → FieldType := fun k => match k with
  | 0 => .array (.object "Sharedair$Node")
  | 1 => .array .int
  | _ => .int
theorem nmX2 : ∀ a, a < 3 → ∀ b, b < 3 → a ≠ b → (TX2 a).2.1 ≠ (TX2 b).2.1 := by decide +kernel
theorem tyX2_ok : ∀ k, k < 3 → parseFieldDescriptor (TX2 k).2.2.1 = some (tyX2 k) := by decide +kernel
abbrev cX2_init : ByteArray := prog_4_method_1_code
def yX2_init : MethodName := ⟨RX2, "<init>", "()V"⟩
abbrev cX2_isNode : ByteArray := prog_4_method_2_code
def yX2_isNode : MethodName := ⟨RX2, "isNode", "(I)Z"⟩
abbrev cX2_everyone : ByteArray := prog_4_method_3_code
def yX2_everyone : MethodName := ⟨RX2, "everyone", "()I"⟩
abbrev cX2_add : ByteArray := prog_4_method_4_code
def yX2_add : MethodName := ⟨RX2, "add", "(IIIZ)I"⟩
abbrev cX2_put : ByteArray := prog_4_method_5_code
def yX2_put : MethodName := ⟨RX2, "put", "(III)V"⟩
abbrev cX2_adjust : ByteArray := prog_4_method_6_code
def yX2_adjust : MethodName := ⟨RX2, "adjust", "(IIZ)V"⟩
abbrev cX2_findHearers : ByteArray := prog_4_method_7_code
def yX2_findHearers : MethodName := ⟨RX2, "findHearers", "()V"⟩
abbrev cX2_far : ByteArray := prog_4_method_8_code
def yX2_far : MethodName := ⟨RX2, "far", "(II)I"⟩
abbrev cX2_canHear : ByteArray := prog_4_method_9_code
def yX2_canHear : MethodName := ⟨RX2, "canHear", "(II)Z"⟩
abbrev cX2_areLinked : ByteArray := prog_4_method_10_code
def yX2_areLinked : MethodName := ⟨RX2, "areLinked", "(II)Z"⟩
abbrev cX2_linkedWith : ByteArray := prog_4_method_11_code
def yX2_linkedWith : MethodName := ⟨RX2, "linkedWith", "(I)I"⟩
abbrev cX2_hearsOneOf : ByteArray := prog_4_method_12_code
def yX2_hearsOneOf : MethodName := ⟨RX2, "hearsOneOf", "(II)Z"⟩
abbrev cX2_gets : ByteArray := prog_4_method_13_code
def yX2_gets : MethodName := ⟨RX2, "gets", "(III)Z"⟩
abbrev cX2_framesInQueues : ByteArray := prog_4_method_14_code
def yX2_framesInQueues : MethodName := ⟨RX2, "framesInQueues", "()I"⟩
abbrev cX2_isSuspect : ByteArray := prog_4_method_15_code
def yX2_isSuspect : MethodName := ⟨RX2, "isSuspect", "(I)Z"⟩
abbrev cX2_fewestCovering : ByteArray := prog_4_method_16_code
def yX2_fewestCovering : MethodName := ⟨RX2, "fewestCovering", "()I"⟩
abbrev cX2_isCovering : ByteArray := prog_4_method_17_code
def yX2_isCovering : MethodName := ⟨RX2, "isCovering", "(I)Z"⟩
def RX3 : String := "Sharedair$Market"
def TX3 : u_T := fun k => match k with
  | 0 => ("Sharedair$Market", "bidders", "[I", true)
  | 1 => ("Sharedair$Market", "prices", "[I", true)
  | 2 => ("Sharedair$Market", "taken", "[I", true)
  | 3 => ("Sharedair$Market", "worth", "[I", true)
  | 4 => ("Sharedair$Market", "worthWithout", "[I", true)
  | 5 => ("Sharedair$Market", "count", "I", false)
  | 6 => ("Sharedair$Market", "winners", "I", false)
  | 7 => ("Sharedair$Market", "mostWorth", "I", false)
  | _ => ("Sharedair$Market", "paidEver", "I", false)
def tyX3 : Nat → FieldType := fun k => match k with
  | 0 => .array .int
  | 1 => .array .int
  | 2 => .array .int
  | 3 => .array .int
  | 4 => .array .int
  | 5 => .int
  | 6 => .int
  | 7 => .int
  | _ => .int
theorem nmX3 : ∀ a, a < 9 → ∀ b, b < 9 → a ≠ b → (TX3 a).2.1 ≠ (TX3 b).2.1 := by decide +kernel
theorem tyX3_ok : ∀ k, k < 9 → parseFieldDescriptor (TX3 k).2.2.1 = some (tyX3 k) := by decide +kernel
abbrev cX3_init : ByteArray := prog_5_method_1_code
def yX3_init : MethodName := ⟨RX3, "<init>", "()V"⟩
abbrev cX3_add : ByteArray := prog_5_method_2_code
def yX3_add : MethodName := ⟨RX3, "add", "(III)I"⟩
abbrev cX3_weigh : ByteArray := prog_5_method_3_code
def yX3_weigh : MethodName := ⟨RX3, "weigh", "(I)V"⟩
abbrev cX3_winningPrice : ByteArray := prog_5_method_4_code
def yX3_winningPrice : MethodName := ⟨RX3, "winningPrice", "(I)I"⟩
abbrev cX3_paidBy : ByteArray := prog_5_method_5_code
def yX3_paidBy : MethodName := ⟨RX3, "paidBy", "(I)I"⟩
abbrev cX3_nobodyOverpays : ByteArray := prog_5_method_6_code
def yX3_nobodyOverpays : MethodName := ⟨RX3, "nobodyOverpays", "()Z"⟩
abbrev cX3_sellAll : ByteArray := prog_5_method_7_code
def yX3_sellAll : MethodName := ⟨RX3, "sellAll", "()I"⟩
abbrev cX3_forgetBids : ByteArray := prog_5_method_8_code
def yX3_forgetBids : MethodName := ⟨RX3, "forgetBids", "()V"⟩
def RX4 : String := "Sharedair$Node"
def TX4 : u_T := fun k => match k with
  | 0 => ("Sharedair$Node", "x", "I", false)
  | 1 => ("Sharedair$Node", "y", "I", false)
  | 2 => ("Sharedair$Node", "reach", "I", false)
  | 3 => ("Sharedair$Node", "isCheat", "Z", false)
  | 4 => ("Sharedair$Node", "queue", "LSharedair$FrameQueue;", true)
  | 5 => ("Sharedair$Node", "waiting", "I", false)
  | 6 => ("Sharedair$Node", "tries", "I", false)
  | 7 => ("Sharedair$Node", "toCome", "I", false)
  | 8 => ("Sharedair$Node", "next", "I", false)
  | 9 => ("Sharedair$Node", "nextGotAll", "Z", false)
  | 10 => ("Sharedair$Node", "slotsSent", "I", false)
  | 11 => ("Sharedair$Node", "starts", "I", false)
  | 12 => ("Sharedair$Node", "patience", "I", false)
  | 13 => ("Sharedair$Node", "repeats", "I", false)
  | 14 => ("Sharedair$Node", "sent", "I", false)
  | _ => ("Sharedair$Node", "arrivals", "LSharedair$NumberSet;", true)
def tyX4 : Nat → FieldType := fun k => match k with
  | 0 => .int
  | 1 => .int
  | 2 => .int
  | 3 => .boolean
  | 4 => .object "Sharedair$FrameQueue"
  | 5 => .int
  | 6 => .int
  | 7 => .int
  | 8 => .int
  | 9 => .boolean
  | 10 => .int
  | 11 => .int
  | 12 => .int
  | 13 => .int
  | 14 => .int
  | _ => .object "Sharedair$NumberSet"
theorem nmX4 : ∀ a, a < 16 → ∀ b, b < 16 → a ≠ b → (TX4 a).2.1 ≠ (TX4 b).2.1 := by decide +kernel
theorem tyX4_ok : ∀ k, k < 16 → parseFieldDescriptor (TX4 k).2.2.1 = some (tyX4 k) := by decide +kernel
abbrev cX4_init : ByteArray := prog_6_method_1_code
def yX4_init : MethodName := ⟨RX4, "<init>", "()V"⟩
abbrev cX4_isSending : ByteArray := prog_6_method_2_code
def yX4_isSending : MethodName := ⟨RX4, "isSending", "()Z"⟩
abbrev cX4_begin : ByteArray := prog_6_method_3_code
def yX4_begin : MethodName := ⟨RX4, "begin", "(II)V"⟩
abbrev cX4_finishFirst : ByteArray := prog_6_method_4_code
def yX4_finishFirst : MethodName := ⟨RX4, "finishFirst", "()V"⟩
abbrev cX4_waitAgain : ByteArray := prog_6_method_5_code
def yX4_waitAgain : MethodName := ⟨RX4, "waitAgain", "(I)V"⟩
abbrev cX4_sign : ByteArray := prog_6_method_6_code
def yX4_sign : MethodName := ⟨RX4, "sign", "()C"⟩
abbrev cX4_isInOrder : ByteArray := prog_6_method_7_code
def yX4_isInOrder : MethodName := ⟨RX4, "isInOrder", "()Z"⟩
def RX5 : String := "Sharedair$NumberSet"
def TX5 : u_T := fun k => match k with
  | _ => ("Sharedair$NumberSet", "bits", "[J", true)
def tyX5 : Nat → FieldType := fun k => match k with
  | _ => .array .long
theorem nmX5 : ∀ a, a < 1 → ∀ b, b < 1 → a ≠ b → (TX5 a).2.1 ≠ (TX5 b).2.1 := by decide +kernel
theorem tyX5_ok : ∀ k, k < 1 → parseFieldDescriptor (TX5 k).2.2.1 = some (tyX5 k) := by decide +kernel
abbrev cX5_init : ByteArray := prog_7_method_1_code
def yX5_init : MethodName := ⟨RX5, "<init>", "()V"⟩
abbrev cX5_has : ByteArray := prog_7_method_2_code
def yX5_has : MethodName := ⟨RX5, "has", "(I)Z"⟩
abbrev cX5_put : ByteArray := prog_7_method_3_code
def yX5_put : MethodName := ⟨RX5, "put", "(I)V"⟩
abbrev cX5_size : ByteArray := prog_7_method_4_code
def yX5_size : MethodName := ⟨RX5, "size", "()I"⟩
def RX6 : String := "Sharedair$Routes"
def TX6 : u_T := fun k => match k with
  | 0 => ("Sharedair$Routes", "land", "LSharedair$Land;", true)
  | 1 => ("Sharedair$Routes", "costs", "[[I", false)
  | 2 => ("Sharedair$Routes", "nexts", "[[I", false)
  | 3 => ("Sharedair$Routes", "newCosts", "[[I", false)
  | 4 => ("Sharedair$Routes", "newNexts", "[[I", false)
  | _ => ("Sharedair$Routes", "exchanges", "I", false)
def tyX6 : Nat → FieldType := fun k => match k with
  | 0 => .object "Sharedair$Land"
  | 1 => .array (.array .int)
  | 2 => .array (.array .int)
  | 3 => .array (.array .int)
  | 4 => .array (.array .int)
  | _ => .int
theorem nmX6 : ∀ a, a < 6 → ∀ b, b < 6 → a ≠ b → (TX6 a).2.1 ≠ (TX6 b).2.1 := by decide +kernel
theorem tyX6_ok : ∀ k, k < 6 → parseFieldDescriptor (TX6 k).2.2.1 = some (tyX6 k) := by decide +kernel
abbrev cX6_init : ByteArray := prog_8_method_1_code
def yX6_init : MethodName := ⟨RX6, "<init>", "(LSharedair$Land;)V"⟩
abbrev cX6_costOf : ByteArray := prog_8_method_2_code
def yX6_costOf : MethodName := ⟨RX6, "costOf", "(II)I"⟩
abbrev cX6_nextOf : ByteArray := prog_8_method_3_code
def yX6_nextOf : MethodName := ⟨RX6, "nextOf", "(II)I"⟩
abbrev cX6_renew : ByteArray := prog_8_method_4_code
def yX6_renew : MethodName := ⟨RX6, "renew", "()V"⟩
abbrev cX6_renewPair : ByteArray := prog_8_method_5_code
def yX6_renewPair : MethodName := ⟨RX6, "renewPair", "(II)V"⟩
abbrev cX6_cheapestNeighbour : ByteArray := prog_8_method_6_code
def yX6_cheapestNeighbour : MethodName := ⟨RX6, "cheapestNeighbour", "(II)I"⟩
abbrev cX6_wayLength : ByteArray := prog_8_method_7_code
def yX6_wayLength : MethodName := ⟨RX6, "wayLength", "(II)I"⟩
abbrev cX6_hasCircle : ByteArray := prog_8_method_8_code
def yX6_hasCircle : MethodName := ⟨RX6, "hasCircle", "(II)Z"⟩
abbrev cX6_follow : ByteArray := prog_8_method_9_code
def yX6_follow : MethodName := ⟨RX6, "follow", "(II)I"⟩
abbrev cX6_pairsWithRoute : ByteArray := prog_8_method_10_code
def yX6_pairsWithRoute : MethodName := ⟨RX6, "pairsWithRoute", "()I"⟩
abbrev cX6_pairsWithCircle : ByteArray := prog_8_method_11_code
def yX6_pairsWithCircle : MethodName := ⟨RX6, "pairsWithCircle", "()I"⟩
abbrev cX6_areInOrder : ByteArray := prog_8_method_12_code
def yX6_areInOrder : MethodName := ⟨RX6, "areInOrder", "(I)Z"⟩
def RX7 : String := "Sharedair$Traffic"
def TX7 : u_T := fun k => match k with
  | 0 => ("Sharedair$Traffic", "land", "LSharedair$Land;", true)
  | 1 => ("Sharedair$Traffic", "routes", "LSharedair$Routes;", true)
  | 2 => ("Sharedair$Traffic", "slot", "I", false)
  | 3 => ("Sharedair$Traffic", "luck", "I", false)
  | 4 => ("Sharedair$Traffic", "deliveries", "I", false)
  | 5 => ("Sharedair$Traffic", "doubles", "I", false)
  | _ => ("Sharedair$Traffic", "dropped", "I", false)
def tyX7 : Nat → FieldType := fun k => match k with
  | 0 => .object "Sharedair$Land"
  | 1 => .object "Sharedair$Routes"
  | 2 => .int
  | 3 => .int
  | 4 => .int
  | 5 => .int
  | _ => .int
theorem nmX7 : ∀ a, a < 7 → ∀ b, b < 7 → a ≠ b → (TX7 a).2.1 ≠ (TX7 b).2.1 := by decide +kernel
theorem tyX7_ok : ∀ k, k < 7 → parseFieldDescriptor (TX7 k).2.2.1 = some (tyX7 k) := by decide +kernel
abbrev cX7_init : ByteArray := prog_9_method_1_code
def yX7_init : MethodName := ⟨RX7, "<init>", "(LSharedair$Land;LSharedair$Routes;)V"⟩
abbrev cX7_senders : ByteArray := prog_9_method_2_code
def yX7_senders : MethodName := ⟨RX7, "senders", "()I"⟩
abbrev cX7_goBy : ByteArray := prog_9_method_3_code
def yX7_goBy : MethodName := ⟨RX7, "goBy", "()V"⟩
abbrev cX7_takeTurn : ByteArray := prog_9_method_4_code
def yX7_takeTurn : MethodName := ⟨RX7, "takeTurn", "(I)V"⟩
abbrev cX7_goOn : ByteArray := prog_9_method_5_code
def yX7_goOn : MethodName := ⟨RX7, "goOn", "(II)V"⟩
abbrev cX7_end : ByteArray := prog_9_method_6_code
def yX7_end : MethodName := ⟨RX7, "end", "(I)V"⟩
abbrev cX7_tryAgain : ByteArray := prog_9_method_7_code
def yX7_tryAgain : MethodName := ⟨RX7, "tryAgain", "(LSharedair$Node;)V"⟩
abbrev cX7_receive : ByteArray := prog_9_method_8_code
def yX7_receive : MethodName := ⟨RX7, "receive", "(ILSharedair$Frame;)V"⟩
abbrev cX7_pushCopy : ByteArray := prog_9_method_9_code
def yX7_pushCopy : MethodName := ⟨RX7, "pushCopy", "(LSharedair$FrameQueue;LSharedair$Frame;)Z"⟩
abbrev cX7_arrive : ByteArray := prog_9_method_10_code
def yX7_arrive : MethodName := ⟨RX7, "arrive", "(LSharedair$Frame;)V"⟩
abbrev cX7_dropFirst : ByteArray := prog_9_method_11_code
def yX7_dropFirst : MethodName := ⟨RX7, "dropFirst", "(LSharedair$Node;)V"⟩
abbrev cX7_draw : ByteArray := prog_9_method_12_code
def yX7_draw : MethodName := ⟨RX7, "draw", "(I)I"⟩
def RX8 : String := "Sharedair"
def TX8 : u_T := fun k => match k with
  | 0 => ("Sharedair", "land", "LSharedair$Land;", true)
  | 1 => ("Sharedair", "routes", "LSharedair$Routes;", true)
  | 2 => ("Sharedair", "traffic", "LSharedair$Traffic;", true)
  | 3 => ("Sharedair", "market", "LSharedair$Market;", true)
  | _ => ("Sharedair", "refused", "I", false)
def tyX8 : Nat → FieldType := fun k => match k with
  | 0 => .object "Sharedair$Land"
  | 1 => .object "Sharedair$Routes"
  | 2 => .object "Sharedair$Traffic"
  | 3 => .object "Sharedair$Market"
  | _ => .int
theorem nmX8 : ∀ a, a < 5 → ∀ b, b < 5 → a ≠ b → (TX8 a).2.1 ≠ (TX8 b).2.1 := by decide +kernel
theorem tyX8_ok : ∀ k, k < 5 → parseFieldDescriptor (TX8 k).2.2.1 = some (tyX8 k) := by decide +kernel
abbrev cX8_init : ByteArray := prog_1_method_1_code
def yX8_init : MethodName := ⟨RX8, "<init>", "()V"⟩
abbrev cX8_node : ByteArray := prog_1_method_2_code
def yX8_node : MethodName := ⟨RX8, "node", "(IIIZ)I"⟩
abbrev cX8_move : ByteArray := prog_1_method_3_code
def yX8_move : MethodName := ⟨RX8, "move", "(III)I"⟩
abbrev cX8_tune : ByteArray := prog_1_method_4_code
def yX8_tune : MethodName := ⟨RX8, "tune", "(IIZ)I"⟩
abbrev cX8_send : ByteArray := prog_1_method_5_code
def yX8_send : MethodName := ⟨RX8, "send", "(III)I"⟩
abbrev cX8_pass : ByteArray := prog_1_method_6_code
def yX8_pass : MethodName := ⟨RX8, "pass", "(I)I"⟩
abbrev cX8_exchange : ByteArray := prog_1_method_7_code
def yX8_exchange : MethodName := ⟨RX8, "exchange", "(I)I"⟩
abbrev cX8_bid : ByteArray := prog_1_method_8_code
def yX8_bid : MethodName := ⟨RX8, "bid", "(III)I"⟩
abbrev cX8_sell : ByteArray := prog_1_method_9_code
def yX8_sell : MethodName := ⟨RX8, "sell", "()I"⟩
abbrev cX8_knock : ByteArray := prog_1_method_10_code
def yX8_knock : MethodName := ⟨RX8, "knock", "()I"⟩
abbrev cX8_hears : ByteArray := prog_1_method_11_code
def yX8_hears : MethodName := ⟨RX8, "hears", "(II)Z"⟩
abbrev cX8_ofNode : ByteArray := prog_1_method_12_code
def yX8_ofNode : MethodName := ⟨RX8, "ofNode", "(II)I"⟩
abbrev cX8_inQueue : ByteArray := prog_1_method_13_code
def yX8_inQueue : MethodName := ⟨RX8, "inQueue", "(III)I"⟩
abbrev cX8_route : ByteArray := prog_1_method_14_code
def yX8_route : MethodName := ⟨RX8, "route", "(III)I"⟩
abbrev cX8_air : ByteArray := prog_1_method_15_code
def yX8_air : MethodName := ⟨RX8, "air", "(I)I"⟩
abbrev cX8_delivered : ByteArray := prog_1_method_16_code
def yX8_delivered : MethodName := ⟨RX8, "delivered", "(II)Z"⟩
abbrev cX8_fairness : ByteArray := prog_1_method_17_code
def yX8_fairness : MethodName := ⟨RX8, "fairness", "()D"⟩
abbrev cX8_row : ByteArray := prog_1_method_18_code
def yX8_row : MethodName := ⟨RX8, "row", "()Ljava/lang/String;"⟩
abbrev cX8_would : ByteArray := prog_1_method_19_code
def yX8_would : MethodName := ⟨RX8, "would", "(II)I"⟩
abbrev cX8_throughput : ByteArray := prog_1_method_20_code
def yX8_throughput : MethodName := ⟨RX8, "throughput", "(II)D"⟩
abbrev cX8_bestChance : ByteArray := prog_1_method_21_code
def yX8_bestChance : MethodName := ⟨RX8, "bestChance", "(I)I"⟩
abbrev cX8_auction : ByteArray := prog_1_method_22_code
def yX8_auction : MethodName := ⟨RX8, "auction", "(I)I"⟩
abbrev cX8_cover : ByteArray := prog_1_method_23_code
def yX8_cover : MethodName := ⟨RX8, "cover", "()I"⟩
abbrev cX8_isSound : ByteArray := prog_1_method_24_code
def yX8_isSound : MethodName := ⟨RX8, "isSound", "()Z"⟩
abbrev cX8_digest : ByteArray := prog_1_method_25_code
def yX8_digest : MethodName := ⟨RX8, "digest", "()J"⟩
abbrev cX8_mixNode : ByteArray := prog_1_method_26_code
def yX8_mixNode : MethodName := ⟨RX8, "mixNode", "(JI)J"⟩
abbrev cX8_mix : ByteArray := prog_1_method_27_code
def yX8_mix : MethodName := ⟨RX8, "mix", "(JJ)J"⟩
abbrev cX8_checkNode : ByteArray := prog_1_method_28_code
def yX8_checkNode : MethodName := ⟨RX8, "checkNode", "(I)V"⟩
abbrev cX8_checkPair : ByteArray := prog_1_method_29_code
def yX8_checkPair : MethodName := ⟨RX8, "checkPair", "(II)V"⟩
abbrev cX8_checkSilent : ByteArray := prog_1_method_30_code
def yX8_checkSilent : MethodName := ⟨RX8, "checkSilent", "(I)V"⟩
abbrev cX8_isWithin : ByteArray := prog_1_method_31_code
def yX8_isWithin : MethodName := ⟨RX8, "isWithin", "(III)Z"⟩
abbrev cX8_isPlace : ByteArray := prog_1_method_32_code
def yX8_isPlace : MethodName := ⟨RX8, "isPlace", "(II)Z"⟩
abbrev cX8_isReach : ByteArray := prog_1_method_33_code
def yX8_isReach : MethodName := ⟨RX8, "isReach", "(I)Z"⟩
abbrev cX8_isIn : ByteArray := prog_1_method_34_code
def yX8_isIn : MethodName := ⟨RX8, "isIn", "(II)Z"⟩
abbrev cX8_chanceOfOne : ByteArray := prog_1_method_35_code
def yX8_chanceOfOne : MethodName := ⟨RX8, "chanceOfOne", "(II)D"⟩
def RX9 : String := "SharedairLaw$Out"
def TX9 : u_T := fun k => match k with
  | 0 => ("SharedairLaw$Out", "n", "J", false)
  | _ => ("SharedairLaw$Out", "d", "D", false)
def tyX9 : Nat → FieldType := fun k => match k with
  | 0 => .long
  | _ => .double
theorem nmX9 : ∀ a, a < 2 → ∀ b, b < 2 → a ≠ b → (TX9 a).2.1 ≠ (TX9 b).2.1 := by decide +kernel
theorem tyX9_ok : ∀ k, k < 2 → parseFieldDescriptor (TX9 k).2.2.1 = some (tyX9 k) := by decide +kernel
abbrev cX9_init : ByteArray := prog_11_method_1_code
def yX9_init : MethodName := ⟨RX9, "<init>", "()V"⟩
def RX10 : String := "SharedairModel$Node"
def TX10 : u_T := fun k => match k with
  | 0 => ("SharedairModel$Node", "x", "I", false)
  | 1 => ("SharedairModel$Node", "y", "I", false)
  | 2 => ("SharedairModel$Node", "reach", "I", false)
  | 3 => ("SharedairModel$Node", "isCheat", "Z", false)
  | 4 => ("SharedairModel$Node", "queue", "Ljava/util/ArrayList;", true)
  | 5 => ("SharedairModel$Node", "wait", "I", false)
  | 6 => ("SharedairModel$Node", "tries", "I", false)
  | 7 => ("SharedairModel$Node", "left", "I", false)
  | 8 => ("SharedairModel$Node", "next", "I", false)
  | 9 => ("SharedairModel$Node", "isHeard", "Z", false)
  | 10 => ("SharedairModel$Node", "since", "I", false)
  | 11 => ("SharedairModel$Node", "air", "I", false)
  | 12 => ("SharedairModel$Node", "starts", "I", false)
  | 13 => ("SharedairModel$Node", "patience", "I", false)
  | 14 => ("SharedairModel$Node", "repeats", "I", false)
  | 15 => ("SharedairModel$Node", "sent", "I", false)
  | 16 => ("SharedairModel$Node", "costs", "[I", true)
  | _ => ("SharedairModel$Node", "routes", "[I", true)
def tyX10 : Nat → FieldType := fun k => match k with
  | 0 => .int
  | 1 => .int
  | 2 => .int
  | 3 => .boolean
  | 4 => .object "java/util/ArrayList"
  | 5 => .int
  | 6 => .int
  | 7 => .int
  | 8 => .int
  | 9 => .boolean
  | 10 => .int
  | 11 => .int
  | 12 => .int
  | 13 => .int
  | 14 => .int
  | 15 => .int
  | 16 => .array .int
  | _ => .array .int
theorem nmX10 : ∀ a, a < 18 → ∀ b, b < 18 → a ≠ b → (TX10 a).2.1 ≠ (TX10 b).2.1 := by decide +kernel
theorem tyX10_ok : ∀ k, k < 18 → parseFieldDescriptor (TX10 k).2.2.1 = some (tyX10 k) := by decide +kernel
abbrev cX10_init : ByteArray := prog_13_method_1_code
def yX10_init : MethodName := ⟨RX10, "<init>", "(IIIZ)V"⟩
abbrev cX10_sends : ByteArray := prog_13_method_2_code
def yX10_sends : MethodName := ⟨RX10, "sends", "()Z"⟩
def RX11 : String := "SharedairModel"
def TX11 : u_T := fun k => match k with
  | 0 => ("SharedairModel", "thrown", "I", false)
  | 1 => ("SharedairModel", "slot", "I", false)
  | 2 => ("SharedairModel", "luck", "I", false)
  | 3 => ("SharedairModel", "delivered", "I", false)
  | 4 => ("SharedairModel", "doubles", "I", false)
  | 5 => ("SharedairModel", "dropped", "I", false)
  | 6 => ("SharedairModel", "exchanges", "I", false)
  | 7 => ("SharedairModel", "paid", "I", false)
  | 8 => ("SharedairModel", "refused", "I", false)
  | 9 => ("SharedairModel", "nodes", "Ljava/util/ArrayList;", true)
  | 10 => ("SharedairModel", "arrived", "Ljava/util/ArrayList;", true)
  | _ => ("SharedairModel", "bids", "Ljava/util/ArrayList;", true)
def tyX11 : Nat → FieldType := fun k => match k with
  | 0 => .int
  | 1 => .int
  | 2 => .int
  | 3 => .int
  | 4 => .int
  | 5 => .int
  | 6 => .int
  | 7 => .int
  | 8 => .int
  | 9 => .object "java/util/ArrayList"
  | 10 => .object "java/util/ArrayList"
  | _ => .object "java/util/ArrayList"
theorem nmX11 : ∀ a, a < 12 → ∀ b, b < 12 → a ≠ b → (TX11 a).2.1 ≠ (TX11 b).2.1 := by decide +kernel
theorem tyX11_ok : ∀ k, k < 12 → parseFieldDescriptor (TX11 k).2.2.1 = some (tyX11 k) := by decide +kernel
abbrev cX11_init : ByteArray := prog_12_method_1_code
def yX11_init : MethodName := ⟨RX11, "<init>", "()V"⟩
abbrev cX11_isIn : ByteArray := prog_12_method_2_code
def yX11_isIn : MethodName := ⟨RX11, "isIn", "(III)Z"⟩
abbrev cX11_one : ByteArray := prog_12_method_3_code
def yX11_one : MethodName := ⟨RX11, "one", "(Z)I"⟩
abbrev cX11_has : ByteArray := prog_12_method_4_code
def yX11_has : MethodName := ⟨RX11, "has", "(II)Z"⟩
abbrev cX11_thrown : ByteArray := prog_12_method_5_code
def yX11_thrown : MethodName := ⟨RX11, "thrown", "()I"⟩
abbrev cX11_refuse : ByteArray := prog_12_method_6_code
def yX11_refuse : MethodName := ⟨RX11, "refuse", "(ZI)Z"⟩
abbrev cX11_start : ByteArray := prog_12_method_7_code
def yX11_start : MethodName := ⟨RX11, "start", "(ZI)Z"⟩
abbrev cX11_isNobody : ByteArray := prog_12_method_8_code
def yX11_isNobody : MethodName := ⟨RX11, "isNobody", "(I)Z"⟩
abbrev cX11_draw : ByteArray := prog_12_method_9_code
def yX11_draw : MethodName := ⟨RX11, "draw", "(I)I"⟩
abbrev cX11_far : ByteArray := prog_12_method_10_code
def yX11_far : MethodName := ⟨RX11, "far", "(II)I"⟩
abbrev cX11_hearsIt : ByteArray := prog_12_method_11_code
def yX11_hearsIt : MethodName := ⟨RX11, "hearsIt", "(II)Z"⟩
abbrev cX11_areLinked : ByteArray := prog_12_method_12_code
def yX11_areLinked : MethodName := ⟨RX11, "areLinked", "(II)Z"⟩
abbrev cX11_links : ByteArray := prog_12_method_13_code
def yX11_links : MethodName := ⟨RX11, "links", "(I)I"⟩
abbrev cX11_node : ByteArray := prog_12_method_14_code
def yX11_node : MethodName := ⟨RX11, "node", "(IIIZ)I"⟩
abbrev cX11_move : ByteArray := prog_12_method_15_code
def yX11_move : MethodName := ⟨RX11, "move", "(III)I"⟩
abbrev cX11_tune : ByteArray := prog_12_method_16_code
def yX11_tune : MethodName := ⟨RX11, "tune", "(IIZ)I"⟩
abbrev cX11_send : ByteArray := prog_12_method_17_code
def yX11_send : MethodName := ⟨RX11, "send", "(III)I"⟩
abbrev cX11_isBusyFor : ByteArray := prog_12_method_18_code
def yX11_isBusyFor : MethodName := ⟨RX11, "isBusyFor", "(I)Z"⟩
abbrev cX11_drop : ByteArray := prog_12_method_19_code
def yX11_drop : MethodName := ⟨RX11, "drop", "(LSharedairModel$Node;)V"⟩
abbrev cX11_begin : ByteArray := prog_12_method_20_code
def yX11_begin : MethodName := ⟨RX11, "begin", "(LSharedairModel$Node;)V"⟩
abbrev cX11_gets : ByteArray := prog_12_method_21_code
def yX11_gets : MethodName := ⟨RX11, "gets", "(III)Z"⟩
abbrev cX11_senders : ByteArray := prog_12_method_22_code
def yX11_senders : MethodName := ⟨RX11, "senders", "()I"⟩
abbrev cX11_hasArrived : ByteArray := prog_12_method_23_code
def yX11_hasArrived : MethodName := ⟨RX11, "hasArrived", "(II)Z"⟩
abbrev cX11_receive : ByteArray := prog_12_method_24_code
def yX11_receive : MethodName := ⟨RX11, "receive", "(I[I)V"⟩
abbrev cX11_end : ByteArray := prog_12_method_25_code
def yX11_end : MethodName := ⟨RX11, "end", "(I)V"⟩
abbrev cX11_nextSlot : ByteArray := prog_12_method_26_code
def yX11_nextSlot : MethodName := ⟨RX11, "nextSlot", "()V"⟩
abbrev cX11_pass : ByteArray := prog_12_method_27_code
def yX11_pass : MethodName := ⟨RX11, "pass", "(I)I"⟩
abbrev cX11_exchangeOnce : ByteArray := prog_12_method_28_code
def yX11_exchangeOnce : MethodName := ⟨RX11, "exchangeOnce", "()V"⟩
abbrev cX11_routed : ByteArray := prog_12_method_29_code
def yX11_routed : MethodName := ⟨RX11, "routed", "()I"⟩
abbrev cX11_exchange : ByteArray := prog_12_method_30_code
def yX11_exchange : MethodName := ⟨RX11, "exchange", "(I)I"⟩
abbrev cX11_bid : ByteArray := prog_12_method_31_code
def yX11_bid : MethodName := ⟨RX11, "bid", "(III)I"⟩
abbrev cX11_canWin : ByteArray := prog_12_method_32_code
def yX11_canWin : MethodName := ⟨RX11, "canWin", "(II)Z"⟩
abbrev cX11_priceOf : ByteArray := prog_12_method_33_code
def yX11_priceOf : MethodName := ⟨RX11, "priceOf", "(II)I"⟩
abbrev cX11_winners : ByteArray := prog_12_method_34_code
def yX11_winners : MethodName := ⟨RX11, "winners", "(I)I"⟩
abbrev cX11_pays : ByteArray := prog_12_method_35_code
def yX11_pays : MethodName := ⟨RX11, "pays", "(II)I"⟩
abbrev cX11_auctionNow : ByteArray := prog_12_method_36_code
def yX11_auctionNow : MethodName := ⟨RX11, "auctionNow", "()[I"⟩
abbrev cX11_sell : ByteArray := prog_12_method_37_code
def yX11_sell : MethodName := ⟨RX11, "sell", "()I"⟩
abbrev cX11_knock : ByteArray := prog_12_method_38_code
def yX11_knock : MethodName := ⟨RX11, "knock", "()I"⟩
abbrev cX11_hears : ByteArray := prog_12_method_39_code
def yX11_hears : MethodName := ⟨RX11, "hears", "(II)Z"⟩
abbrev cX11_isSuspect : ByteArray := prog_12_method_40_code
def yX11_isSuspect : MethodName := ⟨RX11, "isSuspect", "(I)Z"⟩
abbrev cX11_nodeTold : ByteArray := prog_12_method_41_code
def yX11_nodeTold : MethodName := ⟨RX11, "nodeTold", "(II)I"⟩
abbrev cX11_ofNode : ByteArray := prog_12_method_42_code
def yX11_ofNode : MethodName := ⟨RX11, "ofNode", "(II)I"⟩
abbrev cX11_queued : ByteArray := prog_12_method_43_code
def yX11_queued : MethodName := ⟨RX11, "queued", "(III)I"⟩
abbrev cX11_inQueue : ByteArray := prog_12_method_44_code
def yX11_inQueue : MethodName := ⟨RX11, "inQueue", "(III)I"⟩
abbrev cX11_way : ByteArray := prog_12_method_45_code
def yX11_way : MethodName := ⟨RX11, "way", "(II)I"⟩
abbrev cX11_routeTold : ByteArray := prog_12_method_46_code
def yX11_routeTold : MethodName := ⟨RX11, "routeTold", "(III)I"⟩
abbrev cX11_route : ByteArray := prog_12_method_47_code
def yX11_route : MethodName := ⟨RX11, "route", "(III)I"⟩
abbrev cX11_circles : ByteArray := prog_12_method_48_code
def yX11_circles : MethodName := ⟨RX11, "circles", "()I"⟩
abbrev cX11_airTold : ByteArray := prog_12_method_49_code
def yX11_airTold : MethodName := ⟨RX11, "airTold", "(I)I"⟩
abbrev cX11_air : ByteArray := prog_12_method_50_code
def yX11_air : MethodName := ⟨RX11, "air", "(I)I"⟩
abbrev cX11_delivered : ByteArray := prog_12_method_51_code
def yX11_delivered : MethodName := ⟨RX11, "delivered", "(II)Z"⟩
abbrev cX11_fairnessNow : ByteArray := prog_12_method_52_code
def yX11_fairnessNow : MethodName := ⟨RX11, "fairnessNow", "()D"⟩
abbrev cX11_fairness : ByteArray := prog_12_method_53_code
def yX11_fairness : MethodName := ⟨RX11, "fairness", "()D"⟩
abbrev cX11_row : ByteArray := prog_12_method_54_code
def yX11_row : MethodName := ⟨RX11, "row", "()Ljava/lang/String;"⟩
abbrev cX11_would : ByteArray := prog_12_method_55_code
def yX11_would : MethodName := ⟨RX11, "would", "(II)I"⟩
abbrev cX11_throughputOf : ByteArray := prog_12_method_56_code
def yX11_throughputOf : MethodName := ⟨RX11, "throughputOf", "(II)D"⟩
abbrev cX11_throughput : ByteArray := prog_12_method_57_code
def yX11_throughput : MethodName := ⟨RX11, "throughput", "(II)D"⟩
abbrev cX11_bestChance : ByteArray := prog_12_method_58_code
def yX11_bestChance : MethodName := ⟨RX11, "bestChance", "(I)I"⟩
abbrev cX11_auction : ByteArray := prog_12_method_59_code
def yX11_auction : MethodName := ⟨RX11, "auction", "(I)I"⟩
abbrev cX11_isCover : ByteArray := prog_12_method_60_code
def yX11_isCover : MethodName := ⟨RX11, "isCover", "(I)Z"⟩
abbrev cX11_coverNow : ByteArray := prog_12_method_61_code
def yX11_coverNow : MethodName := ⟨RX11, "coverNow", "()I"⟩
abbrev cX11_cover : ByteArray := prog_12_method_62_code
def yX11_cover : MethodName := ⟨RX11, "cover", "()I"⟩
abbrev cX11_isWhole : ByteArray := prog_12_method_63_code
def yX11_isWhole : MethodName := ⟨RX11, "isWhole", "()Z"⟩
abbrev cX11_isSound : ByteArray := prog_12_method_64_code
def yX11_isSound : MethodName := ⟨RX11, "isSound", "()Z"⟩
abbrev cX11_add : ByteArray := prog_12_method_65_code
def yX11_add : MethodName := ⟨RX11, "add", "(JJ)J"⟩
abbrev cX11_digest : ByteArray := prog_12_method_66_code
def yX11_digest : MethodName := ⟨RX11, "digest", "()J"⟩
def RJx145de : String := "java/io/Serializable"
def TJx145de : u_T := fun k => match k with
  | _ => ("", "", "", false)
def tyJx145de : Nat → FieldType := fun k => match k with
  | _ => .int
theorem nmJx145de : ∀ a, a < 0 → ∀ b, b < 0 → a ≠ b → (TJx145de a).2.1 ≠ (TJx145de b).2.1 := by decide +kernel
theorem tyJx145de_ok : ∀ k, k < 0 → parseFieldDescriptor (TJx145de k).2.2.1 = some (tyJx145de k) := by decide +kernel
def RJ5 : String := "java/lang/AbstractStringBuilder"
def TJ5 : u_T := fun k => match k with
  | _ => ("", "", "", false)
def tyJ5 : Nat → FieldType := fun k => match k with
  | _ => .int
theorem nmJ5 : ∀ a, a < 0 → ∀ b, b < 0 → a ≠ b → (TJ5 a).2.1 ≠ (TJ5 b).2.1 := by decide +kernel
theorem tyJ5_ok : ∀ k, k < 0 → parseFieldDescriptor (TJ5 k).2.2.1 = some (tyJ5 k) := by decide +kernel
abbrev cJ5_init_d00df : ByteArray := prog_15_method_2_code
def yJ5_init_d00df : MethodName := ⟨RJ5, "<init>", "(I)V"⟩
abbrev cJ5_length_8abf5 : ByteArray := prog_15_method_6_code
def yJ5_length_8abf5 : MethodName := ⟨RJ5, "length", "()I"⟩
abbrev cJ5_ensureCapacityInternal_d00df : ByteArray := prog_15_method_9_code
def yJ5_ensureCapacityInternal_d00df : MethodName := ⟨RJ5, "ensureCapacityInternal", "(I)V"⟩
abbrev cJ5_newCapacity_0f7a4 : ByteArray := prog_15_method_10_code
def yJ5_newCapacity_0f7a4 : MethodName := ⟨RJ5, "newCapacity", "(I)I"⟩
abbrev cJ5_inflate_da8c8 : ByteArray := prog_15_method_11_code
def yJ5_inflate_da8c8 : MethodName := ⟨RJ5, "inflate", "()V"⟩
abbrev cJ5_append_cf1ce : ByteArray := prog_15_method_22_code
def yJ5_append_cf1ce : MethodName := ⟨RJ5, "append", "(Ljava/lang/String;)Ljava/lang/AbstractStringBuilder;"⟩
abbrev cJ5_appendNull_278bc : ByteArray := prog_15_method_26_code
def yJ5_appendNull_278bc : MethodName := ⟨RJ5, "appendNull", "()Ljava/lang/AbstractStringBuilder;"⟩
abbrev cJ5_append_3fe6f : ByteArray := prog_15_method_31_code
def yJ5_append_3fe6f : MethodName := ⟨RJ5, "append", "(C)Ljava/lang/AbstractStringBuilder;"⟩
abbrev cJ5_append_c97b9 : ByteArray := prog_15_method_32_code
def yJ5_append_c97b9 : MethodName := ⟨RJ5, "append", "(I)Ljava/lang/AbstractStringBuilder;"⟩
abbrev cJ5_getValue_6d5f1 : ByteArray := prog_15_method_64_code
def yJ5_getValue_6d5f1 : MethodName := ⟨RJ5, "getValue", "()[B"⟩
abbrev cJ5_isLatin1_aae02 : ByteArray := prog_15_method_68_code
def yJ5_isLatin1_aae02 : MethodName := ⟨RJ5, "isLatin1", "()Z"⟩
abbrev cJ5_inflateIfNeededFor_a7421 : ByteArray := prog_15_method_71_code
def yJ5_inflateIfNeededFor_a7421 : MethodName := ⟨RJ5, "inflateIfNeededFor", "(Ljava/lang/String;)V"⟩
abbrev cJ5_putStringAt_47b60 : ByteArray := prog_15_method_73_code
def yJ5_putStringAt_47b60 : MethodName := ⟨RJ5, "putStringAt", "(ILjava/lang/String;)V"⟩
def RJx2cfe8 : String := "java/lang/Appendable"
def TJx2cfe8 : u_T := fun k => match k with
  | _ => ("", "", "", false)
def tyJx2cfe8 : Nat → FieldType := fun k => match k with
  | _ => .int
theorem nmJx2cfe8 : ∀ a, a < 0 → ∀ b, b < 0 → a ≠ b → (TJx2cfe8 a).2.1 ≠ (TJx2cfe8 b).2.1 := by decide +kernel
theorem tyJx2cfe8_ok : ∀ k, k < 0 → parseFieldDescriptor (TJx2cfe8 k).2.2.1 = some (tyJx2cfe8 k) := by decide +kernel
def RJx9f9b0 : String := "java/lang/CharSequence"
def TJx9f9b0 : u_T := fun k => match k with
  | _ => ("", "", "", false)
def tyJx9f9b0 : Nat → FieldType := fun k => match k with
  | _ => .int
theorem nmJx9f9b0 : ∀ a, a < 0 → ∀ b, b < 0 → a ≠ b → (TJx9f9b0 a).2.1 ≠ (TJx9f9b0 b).2.1 := by decide +kernel
theorem tyJx9f9b0_ok : ∀ k, k < 0 → parseFieldDescriptor (TJx9f9b0 k).2.2.1 = some (tyJx9f9b0 k) := by decide +kernel
def RJx8e188 : String := "java/lang/Cloneable"
def TJx8e188 : u_T := fun k => match k with
  | _ => ("", "", "", false)
def tyJx8e188 : Nat → FieldType := fun k => match k with
  | _ => .int
theorem nmJx8e188 : ∀ a, a < 0 → ∀ b, b < 0 → a ≠ b → (TJx8e188 a).2.1 ≠ (TJx8e188 b).2.1 := by decide +kernel
theorem tyJx8e188_ok : ∀ k, k < 0 → parseFieldDescriptor (TJx8e188 k).2.2.1 = some (tyJx8e188 k) := by decide +kernel
def RJxb160c : String := "java/lang/Comparable"
def TJxb160c : u_T := fun k => match k with
  | _ => ("", "", "", false)
def tyJxb160c : Nat → FieldType := fun k => match k with
  | _ => .int
theorem nmJxb160c : ∀ a, a < 0 → ∀ b, b < 0 → a ≠ b → (TJxb160c a).2.1 ≠ (TJxb160c b).2.1 := by decide +kernel
theorem tyJxb160c_ok : ∀ k, k < 0 → parseFieldDescriptor (TJxb160c k).2.2.1 = some (tyJxb160c k) := by decide +kernel
def RJ6 : String := "java/lang/Integer"
def TJ6 : u_T := fun k => match k with
  | _ => ("", "", "", false)
def tyJ6 : Nat → FieldType := fun k => match k with
  | _ => .int
theorem nmJ6 : ∀ a, a < 0 → ∀ b, b < 0 → a ≠ b → (TJ6 a).2.1 ≠ (TJ6 b).2.1 := by decide +kernel
theorem tyJ6_ok : ∀ k, k < 0 → parseFieldDescriptor (TJ6 k).2.2.1 = some (tyJ6 k) := by decide +kernel
abbrev cJ6_getChars_ba4f3 : ByteArray := prog_24_method_12_code
def yJ6_getChars_ba4f3 : MethodName := ⟨RJ6, "getChars", "(II[B)I"⟩
abbrev cJ6_stringSize_0f7a4 : ByteArray := prog_24_method_13_code
def yJ6_stringSize_0f7a4 : MethodName := ⟨RJ6, "stringSize", "(I)I"⟩
abbrev cJ6_bitCount_0f7a4 : ByteArray := prog_24_method_49_code
def yJ6_bitCount_0f7a4 : MethodName := ⟨RJ6, "bitCount", "(I)I"⟩
def RJxab1ab : String := "java/lang/Iterable"
def TJxab1ab : u_T := fun k => match k with
  | _ => ("", "", "", false)
def tyJxab1ab : Nat → FieldType := fun k => match k with
  | _ => .int
theorem nmJxab1ab : ∀ a, a < 0 → ∀ b, b < 0 → a ≠ b → (TJxab1ab a).2.1 ≠ (TJxab1ab b).2.1 := by decide +kernel
theorem tyJxab1ab_ok : ∀ k, k < 0 → parseFieldDescriptor (TJxab1ab k).2.2.1 = some (tyJxab1ab k) := by decide +kernel
def RJ13 : String := "java/lang/Long"
def TJ13 : u_T := fun k => match k with
  | _ => ("", "", "", false)
def tyJ13 : Nat → FieldType := fun k => match k with
  | _ => .int
theorem nmJ13 : ∀ a, a < 0 → ∀ b, b < 0 → a ≠ b → (TJ13 a).2.1 ≠ (TJ13 b).2.1 := by decide +kernel
theorem tyJ13_ok : ∀ k, k < 0 → parseFieldDescriptor (TJ13 k).2.2.1 = some (tyJ13 k) := by decide +kernel
abbrev cJ13_bitCount_95d88 : ByteArray := prog_26_method_50_code
def yJ13_bitCount_95d88 : MethodName := ⟨RJ13, "bitCount", "(J)I"⟩
def RJ9 : String := "java/lang/Math"
def TJ9 : u_T := fun k => match k with
  | _ => ("", "", "", false)
def tyJ9 : Nat → FieldType := fun k => match k with
  | _ => .int
theorem nmJ9 : ∀ a, a < 0 → ∀ b, b < 0 → a ≠ b → (TJ9 a).2.1 ≠ (TJ9 b).2.1 := by decide +kernel
theorem tyJ9_ok : ∀ k, k < 0 → parseFieldDescriptor (TJ9 k).2.2.1 = some (tyJ9 k) := by decide +kernel
abbrev cJ9_max_7cf53 : ByteArray := prog_27_method_65_code
def yJ9_max_7cf53 : MethodName := ⟨RJ9, "max", "(II)I"⟩
abbrev cJ9_min_7cf53 : ByteArray := prog_27_method_69_code
def yJ9_min_7cf53 : MethodName := ⟨RJ9, "min", "(II)I"⟩
def RJxd2413 : String := "java/lang/Number"
def TJxd2413 : u_T := fun k => match k with
  | _ => ("", "", "", false)
def tyJxd2413 : Nat → FieldType := fun k => match k with
  | _ => .int
theorem nmJxd2413 : ∀ a, a < 0 → ∀ b, b < 0 → a ≠ b → (TJxd2413 a).2.1 ≠ (TJxd2413 b).2.1 := by decide +kernel
theorem tyJxd2413_ok : ∀ k, k < 0 → parseFieldDescriptor (TJxd2413 k).2.2.1 = some (tyJxd2413 k) := by decide +kernel
def RJ0 : String := "java/lang/String"
def TJ0 : u_T := fun k => match k with
  | 0 => ("java/lang/String", "value", "[B", true)
  | 1 => ("java/lang/String", "coder", "B", true)
  | 2 => ("java/lang/String", "hash", "I", false)
  | _ => ("java/lang/String", "hashIsZero", "Z", false)
def tyJ0 : Nat → FieldType := fun k => match k with
  | 0 => .array .byte
  | 1 => .byte
  | 2 => .int
  | _ => .boolean
theorem nmJ0 : ∀ a, a < 4 → ∀ b, b < 4 → a ≠ b → (TJ0 a).2.1 ≠ (TJ0 b).2.1 := by decide +kernel
theorem tyJ0_ok : ∀ k, k < 4 → parseFieldDescriptor (TJ0 k).2.2.1 = some (tyJ0 k) := by decide +kernel
abbrev cJ0_init_81219 : ByteArray := prog_30_method_53_code
def yJ0_init_81219 : MethodName := ⟨RJ0, "<init>", "(Ljava/lang/StringBuilder;)V"⟩
abbrev cJ0_length_8abf5 : ByteArray := prog_30_method_54_code
def yJ0_length_8abf5 : MethodName := ⟨RJ0, "length", "()I"⟩
abbrev cJ0_equals_9ea2d : ByteArray := prog_30_method_66_code
def yJ0_equals_9ea2d : MethodName := ⟨RJ0, "equals", "(Ljava/lang/Object;)Z"⟩
abbrev cJ0_getBytes_840e7 : ByteArray := prog_30_method_147_code
def yJ0_getBytes_840e7 : MethodName := ⟨RJ0, "getBytes", "([BIB)V"⟩
abbrev cJ0_init_db425 : ByteArray := prog_30_method_150_code
def yJ0_init_db425 : MethodName := ⟨RJ0, "<init>", "(Ljava/lang/AbstractStringBuilder;Ljava/lang/Void;)V"⟩
abbrev cJ0_coder_7d493 : ByteArray := prog_30_method_152_code
def yJ0_coder_7d493 : MethodName := ⟨RJ0, "coder", "()B"⟩
abbrev cJ0_checkIndex_df160 : ByteArray := prog_30_method_155_code
def yJ0_checkIndex_df160 : MethodName := ⟨RJ0, "checkIndex", "(II)V"⟩
abbrev cJ0_checkBoundsOffCount_cabcc : ByteArray := prog_30_method_157_code
def yJ0_checkBoundsOffCount_cabcc : MethodName := ⟨RJ0, "checkBoundsOffCount", "(III)I"⟩
abbrev cJ0_checkBoundsBeginEnd_23922 : ByteArray := prog_30_method_158_code
def yJ0_checkBoundsBeginEnd_23922 : MethodName := ⟨RJ0, "checkBoundsBeginEnd", "(III)V"⟩
def RJ4 : String := "java/lang/StringBuilder"
def TJ4 : u_T := fun k => match k with
  | 0 => ("java/lang/AbstractStringBuilder", "value", "[B", false)
  | 1 => ("java/lang/AbstractStringBuilder", "coder", "B", false)
  | 2 => ("java/lang/AbstractStringBuilder", "maybeLatin1", "Z", false)
  | _ => ("java/lang/AbstractStringBuilder", "count", "I", false)
def tyJ4 : Nat → FieldType := fun k => match k with
  | 0 => .array .byte
  | 1 => .byte
  | 2 => .boolean
  | _ => .int
theorem nmJ4 : ∀ a, a < 4 → ∀ b, b < 4 → a ≠ b → (TJ4 a).2.1 ≠ (TJ4 b).2.1 := by decide +kernel
theorem tyJ4_ok : ∀ k, k < 4 → parseFieldDescriptor (TJ4 k).2.2.1 = some (tyJ4 k) := by decide +kernel
abbrev cJ4_init_da8c8 : ByteArray := prog_31_method_1_code
def yJ4_init_da8c8 : MethodName := ⟨RJ4, "<init>", "()V"⟩
abbrev cJ4_append_15ec4 : ByteArray := prog_31_method_7_code
def yJ4_append_15ec4 : MethodName := ⟨RJ4, "append", "(Ljava/lang/String;)Ljava/lang/StringBuilder;"⟩
abbrev cJ4_append_cf468 : ByteArray := prog_31_method_14_code
def yJ4_append_cf468 : MethodName := ⟨RJ4, "append", "(C)Ljava/lang/StringBuilder;"⟩
abbrev cJ4_append_bf812 : ByteArray := prog_31_method_15_code
def yJ4_append_bf812 : MethodName := ⟨RJ4, "append", "(I)Ljava/lang/StringBuilder;"⟩
abbrev cJ4_toString_0e30d : ByteArray := prog_31_method_42_code
def yJ4_toString_0e30d : MethodName := ⟨RJ4, "toString", "()Ljava/lang/String;"⟩
abbrev cJ4_length_8abf5 : ByteArray := prog_31_method_93_code
def yJ4_length_8abf5 : MethodName := ⟨RJ4, "length", "()I"⟩
def RJ1 : String := "java/lang/StringLatin1"
def TJ1 : u_T := fun k => match k with
  | _ => ("", "", "", false)
def tyJ1 : Nat → FieldType := fun k => match k with
  | _ => .int
theorem nmJ1 : ∀ a, a < 0 → ∀ b, b < 0 → a ≠ b → (TJ1 a).2.1 ≠ (TJ1 b).2.1 := by decide +kernel
theorem tyJ1_ok : ∀ k, k < 0 → parseFieldDescriptor (TJ1 k).2.2.1 = some (tyJ1 k) := by decide +kernel
abbrev cJ1_canEncode_fc78d : ByteArray := prog_32_method_3_code
def yJ1_canEncode_fc78d : MethodName := ⟨RJ1, "canEncode", "(C)Z"⟩
abbrev cJ1_equals_b5fdf : ByteArray := prog_32_method_13_code
def yJ1_equals_b5fdf : MethodName := ⟨RJ1, "equals", "([B[B)Z"⟩
abbrev cJ1_inflate_0e8fd : ByteArray := prog_32_method_50_code
def yJ1_inflate_0e8fd : MethodName := ⟨RJ1, "inflate", "([BI[BII)V"⟩
def RJ2 : String := "java/lang/StringUTF16"
def TJ2 : u_T := fun k => match k with
  | _ => ("", "", "", false)
def tyJ2 : Nat → FieldType := fun k => match k with
  | _ => .int
theorem nmJ2 : ∀ a, a < 0 → ∀ b, b < 0 → a ≠ b → (TJ2 a).2.1 ≠ (TJ2 b).2.1 := by decide +kernel
theorem tyJ2_ok : ∀ k, k < 0 → parseFieldDescriptor (TJ2 k).2.2.1 = some (tyJ2 k) := by decide +kernel
abbrev cJ2_newBytesFor_77867 : ByteArray := prog_33_method_2_code
def yJ2_newBytesFor_77867 : MethodName := ⟨RJ2, "newBytesFor", "(I)[B"⟩
abbrev cJ2_newBytesLength_0f7a4 : ByteArray := prog_33_method_3_code
def yJ2_newBytesLength_0f7a4 : MethodName := ⟨RJ2, "newBytesLength", "(I)I"⟩
abbrev cJ2_putChar_b72d1 : ByteArray := prog_33_method_4_code
def yJ2_putChar_b72d1 : MethodName := ⟨RJ2, "putChar", "([BII)V"⟩
abbrev cJ2_getChar_3b067 : ByteArray := prog_33_method_5_code
def yJ2_getChar_3b067 : MethodName := ⟨RJ2, "getChar", "([BI)C"⟩
abbrev cJ2_length_9d52b : ByteArray := prog_33_method_6_code
def yJ2_length_9d52b : MethodName := ⟨RJ2, "length", "([B)I"⟩
abbrev cJ2_coderFromArrayLen_85cad : ByteArray := prog_33_method_15_code
def yJ2_coderFromArrayLen_85cad : MethodName := ⟨RJ2, "coderFromArrayLen", "([BI)B"⟩
abbrev cJ2_compress_39247 : ByteArray := prog_33_method_17_code
def yJ2_compress_39247 : MethodName := ⟨RJ2, "compress", "([BII)[B"⟩
abbrev cJ2_compress_5af95 : ByteArray := prog_33_method_22_code
def yJ2_compress_5af95 : MethodName := ⟨RJ2, "compress", "([BI[BII)I"⟩
abbrev cJ2_putCharSB_b72d1 : ByteArray := prog_33_method_71_code
def yJ2_putCharSB_b72d1 : MethodName := ⟨RJ2, "putCharSB", "([BII)V"⟩
abbrev cJ2_getChars_46870 : ByteArray := prog_33_method_77_code
def yJ2_getChars_46870 : MethodName := ⟨RJ2, "getChars", "(III[B)I"⟩
abbrev cJ2_putCharsAt_cd4e5 : ByteArray := prog_33_method_81_code
def yJ2_putCharsAt_cd4e5 : MethodName := ⟨RJ2, "putCharsAt", "([BICCCC)I"⟩
abbrev cJ2_inflate_0e8fd : ByteArray := prog_33_method_86_code
def yJ2_inflate_0e8fd : MethodName := ⟨RJ2, "inflate", "([BI[BII)V"⟩
abbrev cJ2_getChars_ba4f3 : ByteArray := prog_33_method_89_code
def yJ2_getChars_ba4f3 : MethodName := ⟨RJ2, "getChars", "(II[B)I"⟩
abbrev cJ2_checkIndex_2214a : ByteArray := prog_33_method_91_code
def yJ2_checkIndex_2214a : MethodName := ⟨RJ2, "checkIndex", "(I[B)V"⟩
abbrev cJ2_checkBoundsBeginEnd_d044e : ByteArray := prog_33_method_93_code
def yJ2_checkBoundsBeginEnd_d044e : MethodName := ⟨RJ2, "checkBoundsBeginEnd", "(II[B)V"⟩
abbrev cJ2_checkBoundsOffCount_d044e : ByteArray := prog_33_method_94_code
def yJ2_checkBoundsOffCount_d044e : MethodName := ⟨RJ2, "checkBoundsOffCount", "(II[B)V"⟩
def RJ10 : String := "java/lang/System"
def TJ10 : u_T := fun k => match k with
  | _ => ("", "", "", false)
def tyJ10 : Nat → FieldType := fun k => match k with
  | _ => .int
theorem nmJ10 : ∀ a, a < 0 → ∀ b, b < 0 → a ≠ b → (TJ10 a).2.1 ≠ (TJ10 b).2.1 := by decide +kernel
theorem tyJ10_ok : ∀ k, k < 0 → parseFieldDescriptor (TJ10 k).2.2.1 = some (tyJ10 k) := by decide +kernel
def RJxfd54e : String := "java/lang/constant/Constable"
def TJxfd54e : u_T := fun k => match k with
  | _ => ("", "", "", false)
def tyJxfd54e : Nat → FieldType := fun k => match k with
  | _ => .int
theorem nmJxfd54e : ∀ a, a < 0 → ∀ b, b < 0 → a ≠ b → (TJxfd54e a).2.1 ≠ (TJxfd54e b).2.1 := by decide +kernel
theorem tyJxfd54e_ok : ∀ k, k < 0 → parseFieldDescriptor (TJxfd54e k).2.2.1 = some (tyJxfd54e k) := by decide +kernel
def RJx3cf43 : String := "java/lang/constant/ConstantDesc"
def TJx3cf43 : u_T := fun k => match k with
  | _ => ("", "", "", false)
def tyJx3cf43 : Nat → FieldType := fun k => match k with
  | _ => .int
theorem nmJx3cf43 : ∀ a, a < 0 → ∀ b, b < 0 → a ≠ b → (TJx3cf43 a).2.1 ≠ (TJx3cf43 b).2.1 := by decide +kernel
theorem tyJx3cf43_ok : ∀ k, k < 0 → parseFieldDescriptor (TJx3cf43 k).2.2.1 = some (tyJx3cf43 k) := by decide +kernel
def RJxa1e45 : String := "java/util/AbstractCollection"
def TJxa1e45 : u_T := fun k => match k with
  | _ => ("", "", "", false)
def tyJxa1e45 : Nat → FieldType := fun k => match k with
  | _ => .int
theorem nmJxa1e45 : ∀ a, a < 0 → ∀ b, b < 0 → a ≠ b → (TJxa1e45 a).2.1 ≠ (TJxa1e45 b).2.1 := by decide +kernel
theorem tyJxa1e45_ok : ∀ k, k < 0 → parseFieldDescriptor (TJxa1e45 k).2.2.1 = some (tyJxa1e45 k) := by decide +kernel
abbrev cJxa1e45_init_da8c8 : ByteArray := prog_38_method_1_code
def yJxa1e45_init_da8c8 : MethodName := ⟨RJxa1e45, "<init>", "()V"⟩
def RJxc12de : String := "java/util/AbstractList"
def TJxc12de : u_T := fun k => match k with
  | _ => ("", "", "", false)
def tyJxc12de : Nat → FieldType := fun k => match k with
  | _ => .int
theorem nmJxc12de : ∀ a, a < 0 → ∀ b, b < 0 → a ≠ b → (TJxc12de a).2.1 ≠ (TJxc12de b).2.1 := by decide +kernel
theorem tyJxc12de_ok : ∀ k, k < 0 → parseFieldDescriptor (TJxc12de k).2.2.1 = some (tyJxc12de k) := by decide +kernel
abbrev cJxc12de_init_da8c8 : ByteArray := prog_39_method_1_code
def yJxc12de_init_da8c8 : MethodName := ⟨RJxc12de, "<init>", "()V"⟩
def RJx35411 : String := "java/util/ArrayList$Itr"
def TJx35411 : u_T := fun k => match k with
  | 0 => ("java/util/ArrayList$Itr", "cursor", "I", false)
  | 1 => ("java/util/ArrayList$Itr", "lastRet", "I", false)
  | 2 => ("java/util/ArrayList$Itr", "expectedModCount", "I", false)
  | _ => ("java/util/ArrayList$Itr", "this$0", "Ljava/util/ArrayList;", true)
def tyJx35411 : Nat → FieldType := fun k => match k with
  | 0 => .int
  | 1 => .int
  | 2 => .int
  | _ => .object "java/util/ArrayList"
theorem nmJx35411 : ∀ a, a < 4 → ∀ b, b < 4 → a ≠ b → (TJx35411 a).2.1 ≠ (TJx35411 b).2.1 := by decide +kernel
theorem tyJx35411_ok : ∀ k, k < 4 → parseFieldDescriptor (TJx35411 k).2.2.1 = some (tyJx35411 k) := by decide +kernel
abbrev cJx35411_init_45d68 : ByteArray := prog_41_method_1_code
def yJx35411_init_45d68 : MethodName := ⟨RJx35411, "<init>", "(Ljava/util/ArrayList;)V"⟩
abbrev cJx35411_hasNext_aae02 : ByteArray := prog_41_method_2_code
def yJx35411_hasNext_aae02 : MethodName := ⟨RJx35411, "hasNext", "()Z"⟩
abbrev cJx35411_next_0502b : ByteArray := prog_41_method_3_code
def yJx35411_next_0502b : MethodName := ⟨RJx35411, "next", "()Ljava/lang/Object;"⟩
abbrev cJx35411_checkForComodification_da8c8 : ByteArray := prog_41_method_6_code
def yJx35411_checkForComodification_da8c8 : MethodName := ⟨RJx35411, "checkForComodification", "()V"⟩
def RJx4a65c : String := "java/util/ArrayList"
def TJx4a65c : u_T := fun k => match k with
  | 0 => ("java/util/AbstractList", "modCount", "I", false)
  | 1 => ("java/util/ArrayList", "elementData", "[Ljava/lang/Object;", false)
  | _ => ("java/util/ArrayList", "size", "I", false)
def tyJx4a65c : Nat → FieldType := fun k => match k with
  | 0 => .int
  | 1 => .array (.object "java/lang/Object")
  | _ => .int
theorem nmJx4a65c : ∀ a, a < 3 → ∀ b, b < 3 → a ≠ b → (TJx4a65c a).2.1 ≠ (TJx4a65c b).2.1 := by decide +kernel
theorem tyJx4a65c_ok : ∀ k, k < 3 → parseFieldDescriptor (TJx4a65c k).2.2.1 = some (tyJx4a65c k) := by decide +kernel
abbrev cJx4a65c_init_da8c8 : ByteArray := prog_40_method_2_code
def yJx4a65c_init_da8c8 : MethodName := ⟨RJx4a65c, "<init>", "()V"⟩
abbrev cJx4a65c_grow_92f84 : ByteArray := prog_40_method_6_code
def yJx4a65c_grow_92f84 : MethodName := ⟨RJx4a65c, "grow", "(I)[Ljava/lang/Object;"⟩
abbrev cJx4a65c_grow_d5877 : ByteArray := prog_40_method_7_code
def yJx4a65c_grow_d5877 : MethodName := ⟨RJx4a65c, "grow", "()[Ljava/lang/Object;"⟩
abbrev cJx4a65c_size_8abf5 : ByteArray := prog_40_method_8_code
def yJx4a65c_size_8abf5 : MethodName := ⟨RJx4a65c, "size", "()I"⟩
abbrev cJx4a65c_isEmpty_aae02 : ByteArray := prog_40_method_9_code
def yJx4a65c_isEmpty_aae02 : MethodName := ⟨RJx4a65c, "isEmpty", "()Z"⟩
abbrev cJx4a65c_elementData_915e3 : ByteArray := prog_40_method_18_code
def yJx4a65c_elementData_915e3 : MethodName := ⟨RJx4a65c, "elementData", "(I)Ljava/lang/Object;"⟩
abbrev cJx4a65c_get_915e3 : ByteArray := prog_40_method_20_code
def yJx4a65c_get_915e3 : MethodName := ⟨RJx4a65c, "get", "(I)Ljava/lang/Object;"⟩
abbrev cJx4a65c_add_72be8 : ByteArray := prog_40_method_24_code
def yJx4a65c_add_72be8 : MethodName := ⟨RJx4a65c, "add", "(Ljava/lang/Object;[Ljava/lang/Object;I)V"⟩
abbrev cJx4a65c_add_9ea2d : ByteArray := prog_40_method_25_code
def yJx4a65c_add_9ea2d : MethodName := ⟨RJx4a65c, "add", "(Ljava/lang/Object;)Z"⟩
abbrev cJx4a65c_remove_915e3 : ByteArray := prog_40_method_29_code
def yJx4a65c_remove_915e3 : MethodName := ⟨RJx4a65c, "remove", "(I)Ljava/lang/Object;"⟩
abbrev cJx4a65c_fastRemove_b59b0 : ByteArray := prog_40_method_39_code
def yJx4a65c_fastRemove_b59b0 : MethodName := ⟨RJx4a65c, "fastRemove", "([Ljava/lang/Object;I)V"⟩
abbrev cJx4a65c_clear_da8c8 : ByteArray := prog_40_method_40_code
def yJx4a65c_clear_da8c8 : MethodName := ⟨RJx4a65c, "clear", "()V"⟩
abbrev cJx4a65c_iterator_32c93 : ByteArray := prog_40_method_55_code
def yJx4a65c_iterator_32c93 : MethodName := ⟨RJx4a65c, "iterator", "()Ljava/util/Iterator;"⟩
def RJ7 : String := "java/util/Arrays"
def TJ7 : u_T := fun k => match k with
  | _ => ("", "", "", false)
def tyJ7 : Nat → FieldType := fun k => match k with
  | _ => .int
theorem nmJ7 : ∀ a, a < 0 → ∀ b, b < 0 → a ≠ b → (TJ7 a).2.1 ≠ (TJ7 b).2.1 := by decide +kernel
theorem tyJ7_ok : ∀ k, k < 0 → parseFieldDescriptor (TJ7 k).2.2.1 = some (tyJ7 k) := by decide +kernel
abbrev cJ7_copyOf_1904c : ByteArray := prog_42_method_119_code
def yJ7_copyOf_1904c : MethodName := ⟨RJ7, "copyOf", "([Ljava/lang/Object;I)[Ljava/lang/Object;"⟩
abbrev cJ7_copyOf_6403c : ByteArray := prog_42_method_120_code
def yJ7_copyOf_6403c : MethodName := ⟨RJ7, "copyOf", "([Ljava/lang/Object;ILjava/lang/Class;)[Ljava/lang/Object;"⟩
abbrev cJ7_copyOf_9075b : ByteArray := prog_42_method_121_code
def yJ7_copyOf_9075b : MethodName := ⟨RJ7, "copyOf", "([BI)[B"⟩
abbrev cJ7_checkLength_df160 : ByteArray := prog_42_method_131_code
def yJ7_checkLength_df160 : MethodName := ⟨RJ7, "checkLength", "(II)V"⟩
abbrev cJ7_copyOfRange_39247 : ByteArray := prog_42_method_132_code
def yJ7_copyOfRange_39247 : MethodName := ⟨RJ7, "copyOfRange", "([BII)[B"⟩
abbrev cJ7_copyOfRangeByte_39247 : ByteArray := prog_42_method_133_code
def yJ7_copyOfRangeByte_39247 : MethodName := ⟨RJ7, "copyOfRangeByte", "([BII)[B"⟩
def RJx5ef63 : String := "java/util/Collection"
def TJx5ef63 : u_T := fun k => match k with
  | _ => ("", "", "", false)
def tyJx5ef63 : Nat → FieldType := fun k => match k with
  | _ => .int
theorem nmJx5ef63 : ∀ a, a < 0 → ∀ b, b < 0 → a ≠ b → (TJx5ef63 a).2.1 ≠ (TJx5ef63 b).2.1 := by decide +kernel
theorem tyJx5ef63_ok : ∀ k, k < 0 → parseFieldDescriptor (TJx5ef63 k).2.2.1 = some (tyJx5ef63 k) := by decide +kernel
def RJx4d0d8 : String := "java/util/Iterator"
def TJx4d0d8 : u_T := fun k => match k with
  | _ => ("", "", "", false)
def tyJx4d0d8 : Nat → FieldType := fun k => match k with
  | _ => .int
theorem nmJx4d0d8 : ∀ a, a < 0 → ∀ b, b < 0 → a ≠ b → (TJx4d0d8 a).2.1 ≠ (TJx4d0d8 b).2.1 := by decide +kernel
theorem tyJx4d0d8_ok : ∀ k, k < 0 → parseFieldDescriptor (TJx4d0d8 k).2.2.1 = some (tyJx4d0d8 k) := by decide +kernel
def RJxbd725 : String := "java/util/List"
def TJxbd725 : u_T := fun k => match k with
  | _ => ("", "", "", false)
def tyJxbd725 : Nat → FieldType := fun k => match k with
  | _ => .int
theorem nmJxbd725 : ∀ a, a < 0 → ∀ b, b < 0 → a ≠ b → (TJxbd725 a).2.1 ≠ (TJxbd725 b).2.1 := by decide +kernel
theorem tyJxbd725_ok : ∀ k, k < 0 → parseFieldDescriptor (TJxbd725 k).2.2.1 = some (tyJxbd725 k) := by decide +kernel
def RJ15 : String := "java/util/Objects"
def TJ15 : u_T := fun k => match k with
  | _ => ("", "", "", false)
def tyJ15 : Nat → FieldType := fun k => match k with
  | _ => .int
theorem nmJ15 : ∀ a, a < 0 → ∀ b, b < 0 → a ≠ b → (TJ15 a).2.1 ≠ (TJ15 b).2.1 := by decide +kernel
theorem tyJ15_ok : ∀ k, k < 0 → parseFieldDescriptor (TJ15 k).2.2.1 = some (tyJ15 k) := by decide +kernel
abbrev cJ15_checkIndex_7cf53 : ByteArray := prog_46_method_17_code
def yJ15_checkIndex_7cf53 : MethodName := ⟨RJ15, "checkIndex", "(II)I"⟩
def RJxf0a74 : String := "java/util/RandomAccess"
def TJxf0a74 : u_T := fun k => match k with
  | _ => ("", "", "", false)
def tyJxf0a74 : Nat → FieldType := fun k => match k with
  | _ => .int
theorem nmJxf0a74 : ∀ a, a < 0 → ∀ b, b < 0 → a ≠ b → (TJxf0a74 a).2.1 ≠ (TJxf0a74 b).2.1 := by decide +kernel
theorem tyJxf0a74_ok : ∀ k, k < 0 → parseFieldDescriptor (TJxf0a74 k).2.2.1 = some (tyJxf0a74 k) := by decide +kernel
def RJxa66e6 : String := "java/util/SequencedCollection"
def TJxa66e6 : u_T := fun k => match k with
  | _ => ("", "", "", false)
def tyJxa66e6 : Nat → FieldType := fun k => match k with
  | _ => .int
theorem nmJxa66e6 : ∀ a, a < 0 → ∀ b, b < 0 → a ≠ b → (TJxa66e6 a).2.1 ≠ (TJxa66e6 b).2.1 := by decide +kernel
theorem tyJxa66e6_ok : ∀ k, k < 0 → parseFieldDescriptor (TJxa66e6 k).2.2.1 = some (tyJxa66e6 k) := by decide +kernel
def RJ8 : String := "jdk/internal/util/ArraysSupport"
def TJ8 : u_T := fun k => match k with
  | _ => ("", "", "", false)
def tyJ8 : Nat → FieldType := fun k => match k with
  | _ => .int
theorem nmJ8 : ∀ a, a < 0 → ∀ b, b < 0 → a ≠ b → (TJ8 a).2.1 ≠ (TJ8 b).2.1 := by decide +kernel
theorem tyJ8_ok : ∀ k, k < 0 → parseFieldDescriptor (TJ8 k).2.2.1 = some (tyJ8 k) := by decide +kernel
abbrev cJ8_newLength_cabcc : ByteArray := prog_49_method_27_code
def yJ8_newLength_cabcc : MethodName := ⟨RJ8, "newLength", "(III)I"⟩
abbrev cJ8_hugeLength_7cf53 : ByteArray := prog_49_method_28_code
def yJ8_hugeLength_7cf53 : MethodName := ⟨RJ8, "hugeLength", "(II)I"⟩
def RJ3 : String := "jdk/internal/util/Preconditions"
def TJ3 : u_T := fun k => match k with
  | _ => ("", "", "", false)
def tyJ3 : Nat → FieldType := fun k => match k with
  | _ => .int
theorem nmJ3 : ∀ a, a < 0 → ∀ b, b < 0 → a ≠ b → (TJ3 a).2.1 ≠ (TJ3 b).2.1 := by decide +kernel
theorem tyJ3_ok : ∀ k, k < 0 → parseFieldDescriptor (TJ3 k).2.2.1 = some (tyJ3 k) := by decide +kernel
abbrev cJ3_checkIndex_8e157 : ByteArray := prog_50_method_11_code
def yJ3_checkIndex_8e157 : MethodName := ⟨RJ3, "checkIndex", "(IILjava/util/function/BiFunction;)I"⟩
abbrev cJ3_checkFromToIndex_8c36e : ByteArray := prog_50_method_12_code
def yJ3_checkFromToIndex_8c36e : MethodName := ⟨RJ3, "checkFromToIndex", "(IIILjava/util/function/BiFunction;)I"⟩
abbrev cJ3_checkFromIndexSize_8c36e : ByteArray := prog_50_method_13_code
def yJ3_checkFromIndexSize_8c36e : MethodName := ⟨RJ3, "checkFromIndexSize", "(IIILjava/util/function/BiFunction;)I"⟩
def RL : String := "SharedairLaw"
abbrev cL_node : ByteArray := method_2_code
def yL_node : MethodName := ⟨RL, "node", "(LSharedair;IIIZLSharedairLaw$Out;)I"⟩
abbrev cL_move : ByteArray := method_3_code
def yL_move : MethodName := ⟨RL, "move", "(LSharedair;IIILSharedairLaw$Out;)I"⟩
abbrev cL_tune : ByteArray := method_4_code
def yL_tune : MethodName := ⟨RL, "tune", "(LSharedair;IIZLSharedairLaw$Out;)I"⟩
abbrev cL_send : ByteArray := method_5_code
def yL_send : MethodName := ⟨RL, "send", "(LSharedair;IIILSharedairLaw$Out;)I"⟩
abbrev cL_pass : ByteArray := method_6_code
def yL_pass : MethodName := ⟨RL, "pass", "(LSharedair;ILSharedairLaw$Out;)I"⟩
abbrev cL_exchange : ByteArray := method_7_code
def yL_exchange : MethodName := ⟨RL, "exchange", "(LSharedair;ILSharedairLaw$Out;)I"⟩
abbrev cL_bid : ByteArray := method_8_code
def yL_bid : MethodName := ⟨RL, "bid", "(LSharedair;IIILSharedairLaw$Out;)I"⟩
abbrev cL_hears : ByteArray := method_9_code
def yL_hears : MethodName := ⟨RL, "hears", "(LSharedair;IILSharedairLaw$Out;)I"⟩
abbrev cL_ofNode : ByteArray := method_10_code
def yL_ofNode : MethodName := ⟨RL, "ofNode", "(LSharedair;IILSharedairLaw$Out;)I"⟩
abbrev cL_inQueue : ByteArray := method_11_code
def yL_inQueue : MethodName := ⟨RL, "inQueue", "(LSharedair;IIILSharedairLaw$Out;)I"⟩
abbrev cL_route : ByteArray := method_12_code
def yL_route : MethodName := ⟨RL, "route", "(LSharedair;IIILSharedairLaw$Out;)I"⟩
abbrev cL_air : ByteArray := method_13_code
def yL_air : MethodName := ⟨RL, "air", "(LSharedair;ILSharedairLaw$Out;)I"⟩
abbrev cL_delivered : ByteArray := method_14_code
def yL_delivered : MethodName := ⟨RL, "delivered", "(LSharedair;IILSharedairLaw$Out;)I"⟩
abbrev cL_would : ByteArray := method_15_code
def yL_would : MethodName := ⟨RL, "would", "(LSharedair;IILSharedairLaw$Out;)I"⟩
abbrev cL_throughput : ByteArray := method_16_code
def yL_throughput : MethodName := ⟨RL, "throughput", "(LSharedair;IILSharedairLaw$Out;)I"⟩
abbrev cL_bestChance : ByteArray := method_17_code
def yL_bestChance : MethodName := ⟨RL, "bestChance", "(LSharedair;ILSharedairLaw$Out;)I"⟩
abbrev cL_auction : ByteArray := method_18_code
def yL_auction : MethodName := ⟨RL, "auction", "(LSharedair;ILSharedairLaw$Out;)I"⟩
abbrev cL_law : ByteArray := code
def yL_law : MethodName := ⟨RL, "law", "([I)Z"⟩
theorem dX0_init_0 : decode cX0_init 0 = .ok (.aload_n 0, 1) := by decide +kernel
theorem dX0_init_1 : decode cX0_init 1 = .ok (.invokespecial 1, 3) := by decide +kernel
theorem dX0_init_4 : decode cX0_init 4 = .ok (.aload_n 0, 1) := by decide +kernel
theorem dX0_init_5 : decode cX0_init 5 = .ok (.iconst 0, 1) := by decide +kernel
theorem dX0_init_6 : decode cX0_init 6 = .ok (.putfield 7, 3) := by decide +kernel
theorem dX0_init_9 : decode cX0_init 9 = .ok (.aload_n 0, 1) := by decide +kernel
theorem dX0_init_10 : decode cX0_init 10 = .ok (.iconst 0, 1) := by decide +kernel
theorem dX0_init_11 : decode cX0_init 11 = .ok (.putfield 13, 3) := by decide +kernel
theorem dX0_init_14 : decode cX0_init 14 = .ok (.aload_n 0, 1) := by decide +kernel
theorem dX0_init_15 : decode cX0_init 15 = .ok (.iconst 0, 1) := by decide +kernel
theorem dX0_init_16 : decode cX0_init 16 = .ok (.putfield 16, 3) := by decide +kernel
theorem dX0_init_19 : decode cX0_init 19 = .ok (.aload_n 0, 1) := by decide +kernel
theorem dX0_init_20 : decode cX0_init 20 = .ok (.iconst 0, 1) := by decide +kernel
theorem dX0_init_21 : decode cX0_init 21 = .ok (.putfield 19, 3) := by decide +kernel
theorem dX0_init_24 : decode cX0_init 24 = .ok (.aload_n 0, 1) := by decide +kernel
theorem dX0_init_25 : decode cX0_init 25 = .ok (.iconst 0, 1) := by decide +kernel
theorem dX0_init_26 : decode cX0_init 26 = .ok (.putfield 22, 3) := by decide +kernel
theorem dX0_init_29 : decode cX0_init 29 = .ok (.return_, 1) := by decide +kernel
theorem dX1_init_0 : decode cX1_init 0 = .ok (.aload_n 0, 1) := by decide +kernel
theorem dX1_init_1 : decode cX1_init 1 = .ok (.invokespecial 3, 3) := by decide +kernel
theorem dX1_init_4 : decode cX1_init 4 = .ok (.aload_n 0, 1) := by decide +kernel
theorem dX1_init_5 : decode cX1_init 5 = .ok (.iconst 4, 1) := by decide +kernel
theorem dX1_init_6 : decode cX1_init 6 = .ok (.anewarray 9, 3) := by decide +kernel
theorem dX1_init_9 : decode cX1_init 9 = .ok (.putfield 11, 3) := by decide +kernel
theorem dX1_init_12 : decode cX1_init 12 = .ok (.aload_n 0, 1) := by decide +kernel
theorem dX1_init_13 : decode cX1_init 13 = .ok (.iconst 0, 1) := by decide +kernel
theorem dX1_init_14 : decode cX1_init 14 = .ok (.putfield 17, 3) := by decide +kernel
theorem dX1_init_17 : decode cX1_init 17 = .ok (.iconst 0, 1) := by decide +kernel
theorem dX1_init_18 : decode cX1_init 18 = .ok (.istore_n 1, 1) := by decide +kernel
theorem dX1_init_19 : decode cX1_init 19 = .ok (.iload_n 1, 1) := by decide +kernel
theorem dX1_init_20 : decode cX1_init 20 = .ok (.iconst 4, 1) := by decide +kernel
theorem dX1_init_21 : decode cX1_init 21 = .ok (.if_icmp .ge 22, 3) := by decide +kernel
theorem dX1_init_24 : decode cX1_init 24 = .ok (.aload_n 0, 1) := by decide +kernel
theorem dX1_init_25 : decode cX1_init 25 = .ok (.getfield 11, 3) := by decide +kernel
theorem dX1_init_28 : decode cX1_init 28 = .ok (.iload_n 1, 1) := by decide +kernel
theorem dX1_init_29 : decode cX1_init 29 = .ok (.new 9, 3) := by decide +kernel
theorem dX1_init_32 : decode cX1_init 32 = .ok (.dup, 1) := by decide +kernel
theorem dX1_init_33 : decode cX1_init 33 = .ok (.invokespecial 21, 3) := by decide +kernel
theorem dX1_init_36 : decode cX1_init 36 = .ok (.aastore, 1) := by decide +kernel
theorem dX1_init_37 : decode cX1_init 37 = .ok (.iinc 1 1, 3) := by decide +kernel
theorem dX1_init_40 : decode cX1_init 40 = .ok (.goto (-21), 3) := by decide +kernel
theorem dX1_init_43 : decode cX1_init 43 = .ok (.return_, 1) := by decide +kernel
theorem dX1_at_0 : decode cX1_at 0 = .ok (.iload_n 1, 1) := by decide +kernel
theorem dX1_at_1 : decode cX1_at 1 = .ok (.ifCond .lt 20, 3) := by decide +kernel
theorem dX1_at_4 : decode cX1_at 4 = .ok (.iload_n 1, 1) := by decide +kernel
theorem dX1_at_5 : decode cX1_at 5 = .ok (.aload_n 0, 1) := by decide +kernel
theorem dX1_at_6 : decode cX1_at 6 = .ok (.getfield 17, 3) := by decide +kernel
theorem dX1_at_9 : decode cX1_at 9 = .ok (.if_icmp .ge 12, 3) := by decide +kernel
theorem dX1_at_12 : decode cX1_at 12 = .ok (.aload_n 0, 1) := by decide +kernel
theorem dX1_at_13 : decode cX1_at 13 = .ok (.getfield 11, 3) := by decide +kernel
theorem dX1_at_16 : decode cX1_at 16 = .ok (.iload_n 1, 1) := by decide +kernel
theorem dX1_at_17 : decode cX1_at 17 = .ok (.aaload, 1) := by decide +kernel
theorem dX1_at_18 : decode cX1_at 18 = .ok (.goto 4, 3) := by decide +kernel
theorem dX1_at_21 : decode cX1_at 21 = .ok (.aconst_null, 1) := by decide +kernel
theorem dX1_at_22 : decode cX1_at 22 = .ok (.areturn, 1) := by decide +kernel
theorem dX1_add_0 : decode cX1_add 0 = .ok (.aload_n 0, 1) := by decide +kernel
theorem dX1_add_1 : decode cX1_add 1 = .ok (.getfield 17, 3) := by decide +kernel
theorem dX1_add_4 : decode cX1_add 4 = .ok (.iconst 4, 1) := by decide +kernel
theorem dX1_add_5 : decode cX1_add 5 = .ok (.if_icmp .lt 5, 3) := by decide +kernel
theorem dX1_add_8 : decode cX1_add 8 = .ok (.iconst 0, 1) := by decide +kernel
theorem dX1_add_9 : decode cX1_add 9 = .ok (.ireturn, 1) := by decide +kernel
theorem dX1_add_10 : decode cX1_add 10 = .ok (.aload_n 0, 1) := by decide +kernel
theorem dX1_add_11 : decode cX1_add 11 = .ok (.getfield 11, 3) := by decide +kernel
theorem dX1_add_14 : decode cX1_add 14 = .ok (.aload_n 0, 1) := by decide +kernel
theorem dX1_add_15 : decode cX1_add 15 = .ok (.getfield 17, 3) := by decide +kernel
theorem dX1_add_18 : decode cX1_add 18 = .ok (.aaload, 1) := by decide +kernel
theorem dX1_add_19 : decode cX1_add 19 = .ok (.astore 6, 2) := by decide +kernel
theorem dX1_add_21 : decode cX1_add 21 = .ok (.aload 6, 2) := by decide +kernel
theorem dX1_add_23 : decode cX1_add 23 = .ok (.iload_n 1, 1) := by decide +kernel
theorem dX1_add_24 : decode cX1_add 24 = .ok (.putfield 22, 3) := by decide +kernel
theorem dX1_add_27 : decode cX1_add 27 = .ok (.aload 6, 2) := by decide +kernel
theorem dX1_add_29 : decode cX1_add 29 = .ok (.iload_n 2, 1) := by decide +kernel
theorem dX1_add_30 : decode cX1_add 30 = .ok (.putfield 25, 3) := by decide +kernel
theorem dX1_add_33 : decode cX1_add 33 = .ok (.aload 6, 2) := by decide +kernel
theorem dX1_add_35 : decode cX1_add 35 = .ok (.iload_n 3, 1) := by decide +kernel
theorem dX1_add_36 : decode cX1_add 36 = .ok (.putfield 28, 3) := by decide +kernel
theorem dX1_add_39 : decode cX1_add 39 = .ok (.aload 6, 2) := by decide +kernel
theorem dX1_add_41 : decode cX1_add 41 = .ok (.iload 4, 2) := by decide +kernel
theorem dX1_add_43 : decode cX1_add 43 = .ok (.putfield 31, 3) := by decide +kernel
theorem dX1_add_46 : decode cX1_add 46 = .ok (.aload 6, 2) := by decide +kernel
theorem dX1_add_48 : decode cX1_add 48 = .ok (.iload 5, 2) := by decide +kernel
theorem dX1_add_50 : decode cX1_add 50 = .ok (.putfield 34, 3) := by decide +kernel
theorem dX1_add_53 : decode cX1_add 53 = .ok (.aload_n 0, 1) := by decide +kernel
theorem dX1_add_54 : decode cX1_add 54 = .ok (.dup, 1) := by decide +kernel
theorem dX1_add_55 : decode cX1_add 55 = .ok (.getfield 17, 3) := by decide +kernel
theorem dX1_add_58 : decode cX1_add 58 = .ok (.iconst 1, 1) := by decide +kernel
theorem dX1_add_59 : decode cX1_add 59 = .ok (.iadd, 1) := by decide +kernel
theorem dX1_add_60 : decode cX1_add 60 = .ok (.putfield 17, 3) := by decide +kernel
theorem dX1_add_63 : decode cX1_add 63 = .ok (.iconst 1, 1) := by decide +kernel
theorem dX1_add_64 : decode cX1_add 64 = .ok (.ireturn, 1) := by decide +kernel
theorem dX1_removeFirst_0 : decode cX1_removeFirst 0 = .ok (.aload_n 0, 1) := by decide +kernel
theorem dX1_removeFirst_1 : decode cX1_removeFirst 1 = .ok (.getfield 17, 3) := by decide +kernel
theorem dX1_removeFirst_4 : decode cX1_removeFirst 4 = .ok (.ifCond .gt 4, 3) := by decide +kernel
theorem dX1_removeFirst_7 : decode cX1_removeFirst 7 = .ok (.return_, 1) := by decide +kernel
theorem dX1_removeFirst_8 : decode cX1_removeFirst 8 = .ok (.aload_n 0, 1) := by decide +kernel
theorem dX1_removeFirst_9 : decode cX1_removeFirst 9 = .ok (.getfield 11, 3) := by decide +kernel
theorem dX1_removeFirst_12 : decode cX1_removeFirst 12 = .ok (.iconst 0, 1) := by decide +kernel
theorem dX1_removeFirst_13 : decode cX1_removeFirst 13 = .ok (.aaload, 1) := by decide +kernel
theorem dX1_removeFirst_14 : decode cX1_removeFirst 14 = .ok (.astore_n 1, 1) := by decide +kernel
theorem dX1_removeFirst_15 : decode cX1_removeFirst 15 = .ok (.iconst 1, 1) := by decide +kernel
theorem dX1_removeFirst_16 : decode cX1_removeFirst 16 = .ok (.istore_n 2, 1) := by decide +kernel
theorem dX1_removeFirst_17 : decode cX1_removeFirst 17 = .ok (.iload_n 2, 1) := by decide +kernel
theorem dX1_removeFirst_18 : decode cX1_removeFirst 18 = .ok (.aload_n 0, 1) := by decide +kernel
theorem dX1_removeFirst_19 : decode cX1_removeFirst 19 = .ok (.getfield 17, 3) := by decide +kernel
theorem dX1_removeFirst_22 : decode cX1_removeFirst 22 = .ok (.if_icmp .ge 23, 3) := by decide +kernel
theorem dX1_removeFirst_25 : decode cX1_removeFirst 25 = .ok (.aload_n 0, 1) := by decide +kernel
theorem dX1_removeFirst_26 : decode cX1_removeFirst 26 = .ok (.getfield 11, 3) := by decide +kernel
theorem dX1_removeFirst_29 : decode cX1_removeFirst 29 = .ok (.iload_n 2, 1) := by decide +kernel
theorem dX1_removeFirst_30 : decode cX1_removeFirst 30 = .ok (.iconst 1, 1) := by decide +kernel
theorem dX1_removeFirst_31 : decode cX1_removeFirst 31 = .ok (.isub, 1) := by decide +kernel
theorem dX1_removeFirst_32 : decode cX1_removeFirst 32 = .ok (.aload_n 0, 1) := by decide +kernel
theorem dX1_removeFirst_33 : decode cX1_removeFirst 33 = .ok (.getfield 11, 3) := by decide +kernel
theorem dX1_removeFirst_36 : decode cX1_removeFirst 36 = .ok (.iload_n 2, 1) := by decide +kernel
theorem dX1_removeFirst_37 : decode cX1_removeFirst 37 = .ok (.aaload, 1) := by decide +kernel
theorem dX1_removeFirst_38 : decode cX1_removeFirst 38 = .ok (.aastore, 1) := by decide +kernel
theorem dX1_removeFirst_39 : decode cX1_removeFirst 39 = .ok (.iinc 2 1, 3) := by decide +kernel
theorem dX1_removeFirst_42 : decode cX1_removeFirst 42 = .ok (.goto (-25), 3) := by decide +kernel
theorem dX1_removeFirst_45 : decode cX1_removeFirst 45 = .ok (.aload_n 0, 1) := by decide +kernel
theorem dX1_removeFirst_46 : decode cX1_removeFirst 46 = .ok (.dup, 1) := by decide +kernel
theorem dX1_removeFirst_47 : decode cX1_removeFirst 47 = .ok (.getfield 17, 3) := by decide +kernel
theorem dX1_removeFirst_50 : decode cX1_removeFirst 50 = .ok (.iconst 1, 1) := by decide +kernel
theorem dX1_removeFirst_51 : decode cX1_removeFirst 51 = .ok (.isub, 1) := by decide +kernel
theorem dX1_removeFirst_52 : decode cX1_removeFirst 52 = .ok (.putfield 17, 3) := by decide +kernel
theorem dX1_removeFirst_55 : decode cX1_removeFirst 55 = .ok (.aload_n 0, 1) := by decide +kernel
theorem dX1_removeFirst_56 : decode cX1_removeFirst 56 = .ok (.getfield 11, 3) := by decide +kernel
theorem dX1_removeFirst_59 : decode cX1_removeFirst 59 = .ok (.aload_n 0, 1) := by decide +kernel
theorem dX1_removeFirst_60 : decode cX1_removeFirst 60 = .ok (.getfield 17, 3) := by decide +kernel
theorem dX1_removeFirst_63 : decode cX1_removeFirst 63 = .ok (.aload_n 1, 1) := by decide +kernel
theorem dX1_removeFirst_64 : decode cX1_removeFirst 64 = .ok (.aastore, 1) := by decide +kernel
theorem dX1_removeFirst_65 : decode cX1_removeFirst 65 = .ok (.return_, 1) := by decide +kernel
theorem dX2_init_0 : decode cX2_init 0 = .ok (.aload_n 0, 1) := by decide +kernel
theorem dX2_init_1 : decode cX2_init 1 = .ok (.invokespecial 3, 3) := by decide +kernel
theorem dX2_init_4 : decode cX2_init 4 = .ok (.aload_n 0, 1) := by decide +kernel
theorem dX2_init_5 : decode cX2_init 5 = .ok (.bipush 8, 2) := by decide +kernel
theorem dX2_init_7 : decode cX2_init 7 = .ok (.anewarray 9, 3) := by decide +kernel
theorem dX2_init_10 : decode cX2_init 10 = .ok (.putfield 11, 3) := by decide +kernel
theorem dX2_init_13 : decode cX2_init 13 = .ok (.aload_n 0, 1) := by decide +kernel
theorem dX2_init_14 : decode cX2_init 14 = .ok (.bipush 8, 2) := by decide +kernel
theorem dX2_init_16 : decode cX2_init 16 = .ok (.newarray .int, 2) := by decide +kernel
theorem dX2_init_18 : decode cX2_init 18 = .ok (.putfield 17, 3) := by decide +kernel
theorem dX2_init_21 : decode cX2_init 21 = .ok (.aload_n 0, 1) := by decide +kernel
theorem dX2_init_22 : decode cX2_init 22 = .ok (.iconst 0, 1) := by decide +kernel
theorem dX2_init_23 : decode cX2_init 23 = .ok (.putfield 21, 3) := by decide +kernel
theorem dX2_init_26 : decode cX2_init 26 = .ok (.iconst 0, 1) := by decide +kernel
theorem dX2_init_27 : decode cX2_init 27 = .ok (.istore_n 1, 1) := by decide +kernel
theorem dX2_init_28 : decode cX2_init 28 = .ok (.iload_n 1, 1) := by decide +kernel
theorem dX2_init_29 : decode cX2_init 29 = .ok (.bipush 8, 2) := by decide +kernel
theorem dX2_init_31 : decode cX2_init 31 = .ok (.if_icmp .ge 22, 3) := by decide +kernel
theorem dX2_init_34 : decode cX2_init 34 = .ok (.aload_n 0, 1) := by decide +kernel
theorem dX2_init_35 : decode cX2_init 35 = .ok (.getfield 11, 3) := by decide +kernel
theorem dX2_init_38 : decode cX2_init 38 = .ok (.iload_n 1, 1) := by decide +kernel
theorem dX2_init_39 : decode cX2_init 39 = .ok (.new 9, 3) := by decide +kernel
theorem dX2_init_42 : decode cX2_init 42 = .ok (.dup, 1) := by decide +kernel
theorem dX2_init_43 : decode cX2_init 43 = .ok (.invokespecial 25, 3) := by decide +kernel
theorem dX2_init_46 : decode cX2_init 46 = .ok (.aastore, 1) := by decide +kernel
theorem dX2_init_47 : decode cX2_init 47 = .ok (.iinc 1 1, 3) := by decide +kernel
theorem dX2_init_50 : decode cX2_init 50 = .ok (.goto (-22), 3) := by decide +kernel
theorem dX2_init_53 : decode cX2_init 53 = .ok (.return_, 1) := by decide +kernel
theorem dX2_isNode_0 : decode cX2_isNode 0 = .ok (.iload_n 1, 1) := by decide +kernel
theorem dX2_isNode_1 : decode cX2_isNode 1 = .ok (.ifCond .lt 15, 3) := by decide +kernel
theorem dX2_isNode_4 : decode cX2_isNode 4 = .ok (.iload_n 1, 1) := by decide +kernel
theorem dX2_isNode_5 : decode cX2_isNode 5 = .ok (.aload_n 0, 1) := by decide +kernel
theorem dX2_isNode_6 : decode cX2_isNode 6 = .ok (.getfield 21, 3) := by decide +kernel
theorem dX2_isNode_9 : decode cX2_isNode 9 = .ok (.if_icmp .ge 7, 3) := by decide +kernel
theorem dX2_isNode_12 : decode cX2_isNode 12 = .ok (.iconst 1, 1) := by decide +kernel
theorem dX2_isNode_13 : decode cX2_isNode 13 = .ok (.goto 4, 3) := by decide +kernel
theorem dX2_isNode_16 : decode cX2_isNode 16 = .ok (.iconst 0, 1) := by decide +kernel
theorem dX2_isNode_17 : decode cX2_isNode 17 = .ok (.ireturn, 1) := by decide +kernel
theorem dX2_everyone_0 : decode cX2_everyone 0 = .ok (.iconst 1, 1) := by decide +kernel
theorem dX2_everyone_1 : decode cX2_everyone 1 = .ok (.aload_n 0, 1) := by decide +kernel
theorem dX2_everyone_2 : decode cX2_everyone 2 = .ok (.getfield 21, 3) := by decide +kernel
theorem dX2_everyone_5 : decode cX2_everyone 5 = .ok (.ishl, 1) := by decide +kernel
theorem dX2_everyone_6 : decode cX2_everyone 6 = .ok (.iconst 1, 1) := by decide +kernel
theorem dX2_everyone_7 : decode cX2_everyone 7 = .ok (.isub, 1) := by decide +kernel
theorem dX2_everyone_8 : decode cX2_everyone 8 = .ok (.ireturn, 1) := by decide +kernel
theorem dX2_add_0 : decode cX2_add 0 = .ok (.aload_n 0, 1) := by decide +kernel
theorem dX2_add_1 : decode cX2_add 1 = .ok (.getfield 21, 3) := by decide +kernel
theorem dX2_add_4 : decode cX2_add 4 = .ok (.istore 5, 2) := by decide +kernel
theorem dX2_add_6 : decode cX2_add 6 = .ok (.aload_n 0, 1) := by decide +kernel
theorem dX2_add_7 : decode cX2_add 7 = .ok (.dup, 1) := by decide +kernel
theorem dX2_add_8 : decode cX2_add 8 = .ok (.getfield 21, 3) := by decide +kernel
theorem dX2_add_11 : decode cX2_add 11 = .ok (.iconst 1, 1) := by decide +kernel
theorem dX2_add_12 : decode cX2_add 12 = .ok (.iadd, 1) := by decide +kernel
theorem dX2_add_13 : decode cX2_add 13 = .ok (.putfield 21, 3) := by decide +kernel
theorem dX2_add_16 : decode cX2_add 16 = .ok (.aload_n 0, 1) := by decide +kernel
theorem dX2_add_17 : decode cX2_add 17 = .ok (.getfield 11, 3) := by decide +kernel
theorem dX2_add_20 : decode cX2_add 20 = .ok (.iload 5, 2) := by decide +kernel
theorem dX2_add_22 : decode cX2_add 22 = .ok (.aaload, 1) := by decide +kernel
theorem dX2_add_23 : decode cX2_add 23 = .ok (.iload_n 1, 1) := by decide +kernel
theorem dX2_add_24 : decode cX2_add 24 = .ok (.putfield 26, 3) := by decide +kernel
theorem dX2_add_27 : decode cX2_add 27 = .ok (.aload_n 0, 1) := by decide +kernel
theorem dX2_add_28 : decode cX2_add 28 = .ok (.getfield 11, 3) := by decide +kernel
theorem dX2_add_31 : decode cX2_add 31 = .ok (.iload 5, 2) := by decide +kernel
theorem dX2_add_33 : decode cX2_add 33 = .ok (.aaload, 1) := by decide +kernel
theorem dX2_add_34 : decode cX2_add 34 = .ok (.iload_n 2, 1) := by decide +kernel
theorem dX2_add_35 : decode cX2_add 35 = .ok (.putfield 29, 3) := by decide +kernel
theorem dX2_add_38 : decode cX2_add 38 = .ok (.aload_n 0, 1) := by decide +kernel
theorem dX2_add_39 : decode cX2_add 39 = .ok (.iload 5, 2) := by decide +kernel
theorem dX2_add_41 : decode cX2_add 41 = .ok (.iload_n 3, 1) := by decide +kernel
theorem dX2_add_42 : decode cX2_add 42 = .ok (.iload 4, 2) := by decide +kernel
theorem dX2_add_44 : decode cX2_add 44 = .ok (.invokevirtual 32, 3) := by decide +kernel
theorem dX2_add_47 : decode cX2_add 47 = .ok (.iload 5, 2) := by decide +kernel
theorem dX2_add_49 : decode cX2_add 49 = .ok (.ireturn, 1) := by decide +kernel
theorem dX2_put_0 : decode cX2_put 0 = .ok (.aload_n 0, 1) := by decide +kernel
theorem dX2_put_1 : decode cX2_put 1 = .ok (.getfield 11, 3) := by decide +kernel
theorem dX2_put_4 : decode cX2_put 4 = .ok (.iload_n 1, 1) := by decide +kernel
theorem dX2_put_5 : decode cX2_put 5 = .ok (.aaload, 1) := by decide +kernel
theorem dX2_put_6 : decode cX2_put 6 = .ok (.iload_n 2, 1) := by decide +kernel
theorem dX2_put_7 : decode cX2_put 7 = .ok (.putfield 26, 3) := by decide +kernel
theorem dX2_put_10 : decode cX2_put 10 = .ok (.aload_n 0, 1) := by decide +kernel
theorem dX2_put_11 : decode cX2_put 11 = .ok (.getfield 11, 3) := by decide +kernel
theorem dX2_put_14 : decode cX2_put 14 = .ok (.iload_n 1, 1) := by decide +kernel
theorem dX2_put_15 : decode cX2_put 15 = .ok (.aaload, 1) := by decide +kernel
theorem dX2_put_16 : decode cX2_put 16 = .ok (.iload_n 3, 1) := by decide +kernel
theorem dX2_put_17 : decode cX2_put 17 = .ok (.putfield 29, 3) := by decide +kernel
theorem dX2_put_20 : decode cX2_put 20 = .ok (.aload_n 0, 1) := by decide +kernel
theorem dX2_put_21 : decode cX2_put 21 = .ok (.invokevirtual 36, 3) := by decide +kernel
theorem dX2_put_24 : decode cX2_put 24 = .ok (.return_, 1) := by decide +kernel
theorem dX2_adjust_0 : decode cX2_adjust 0 = .ok (.aload_n 0, 1) := by decide +kernel
theorem dX2_adjust_1 : decode cX2_adjust 1 = .ok (.getfield 11, 3) := by decide +kernel
theorem dX2_adjust_4 : decode cX2_adjust 4 = .ok (.iload_n 1, 1) := by decide +kernel
theorem dX2_adjust_5 : decode cX2_adjust 5 = .ok (.aaload, 1) := by decide +kernel
theorem dX2_adjust_6 : decode cX2_adjust 6 = .ok (.iload_n 2, 1) := by decide +kernel
theorem dX2_adjust_7 : decode cX2_adjust 7 = .ok (.putfield 39, 3) := by decide +kernel
theorem dX2_adjust_10 : decode cX2_adjust 10 = .ok (.aload_n 0, 1) := by decide +kernel
theorem dX2_adjust_11 : decode cX2_adjust 11 = .ok (.getfield 11, 3) := by decide +kernel
theorem dX2_adjust_14 : decode cX2_adjust 14 = .ok (.iload_n 1, 1) := by decide +kernel
theorem dX2_adjust_15 : decode cX2_adjust 15 = .ok (.aaload, 1) := by decide +kernel
theorem dX2_adjust_16 : decode cX2_adjust 16 = .ok (.iload_n 3, 1) := by decide +kernel
theorem dX2_adjust_17 : decode cX2_adjust 17 = .ok (.putfield 42, 3) := by decide +kernel
theorem dX2_adjust_20 : decode cX2_adjust 20 = .ok (.aload_n 0, 1) := by decide +kernel
theorem dX2_adjust_21 : decode cX2_adjust 21 = .ok (.invokevirtual 36, 3) := by decide +kernel
theorem dX2_adjust_24 : decode cX2_adjust 24 = .ok (.return_, 1) := by decide +kernel
theorem dX2_findHearers_0 : decode cX2_findHearers 0 = .ok (.iconst 0, 1) := by decide +kernel
theorem dX2_findHearers_1 : decode cX2_findHearers 1 = .ok (.istore_n 1, 1) := by decide +kernel
theorem dX2_findHearers_2 : decode cX2_findHearers 2 = .ok (.iload_n 1, 1) := by decide +kernel
theorem dX2_findHearers_3 : decode cX2_findHearers 3 = .ok (.aload_n 0, 1) := by decide +kernel
theorem dX2_findHearers_4 : decode cX2_findHearers 4 = .ok (.getfield 21, 3) := by decide +kernel
theorem dX2_findHearers_7 : decode cX2_findHearers 7 = .ok (.if_icmp .ge 73, 3) := by decide +kernel
theorem dX2_findHearers_10 : decode cX2_findHearers 10 = .ok (.iconst 0, 1) := by decide +kernel
theorem dX2_findHearers_11 : decode cX2_findHearers 11 = .ok (.istore_n 2, 1) := by decide +kernel
theorem dX2_findHearers_12 : decode cX2_findHearers 12 = .ok (.iconst 0, 1) := by decide +kernel
theorem dX2_findHearers_13 : decode cX2_findHearers 13 = .ok (.istore_n 3, 1) := by decide +kernel
theorem dX2_findHearers_14 : decode cX2_findHearers 14 = .ok (.iload_n 3, 1) := by decide +kernel
theorem dX2_findHearers_15 : decode cX2_findHearers 15 = .ok (.aload_n 0, 1) := by decide +kernel
theorem dX2_findHearers_16 : decode cX2_findHearers 16 = .ok (.getfield 21, 3) := by decide +kernel
theorem dX2_findHearers_19 : decode cX2_findHearers 19 = .ok (.if_icmp .ge 48, 3) := by decide +kernel
theorem dX2_findHearers_22 : decode cX2_findHearers 22 = .ok (.iload_n 3, 1) := by decide +kernel
theorem dX2_findHearers_23 : decode cX2_findHearers 23 = .ok (.iload_n 1, 1) := by decide +kernel
theorem dX2_findHearers_24 : decode cX2_findHearers 24 = .ok (.if_icmp .eq 37, 3) := by decide +kernel
theorem dX2_findHearers_27 : decode cX2_findHearers 27 = .ok (.aload_n 0, 1) := by decide +kernel
theorem dX2_findHearers_28 : decode cX2_findHearers 28 = .ok (.iload_n 3, 1) := by decide +kernel
theorem dX2_findHearers_29 : decode cX2_findHearers 29 = .ok (.iload_n 1, 1) := by decide +kernel
theorem dX2_findHearers_30 : decode cX2_findHearers 30 = .ok (.invokevirtual 46, 3) := by decide +kernel
theorem dX2_findHearers_33 : decode cX2_findHearers 33 = .ok (.aload_n 0, 1) := by decide +kernel
theorem dX2_findHearers_34 : decode cX2_findHearers 34 = .ok (.getfield 11, 3) := by decide +kernel
theorem dX2_findHearers_37 : decode cX2_findHearers 37 = .ok (.iload_n 1, 1) := by decide +kernel
theorem dX2_findHearers_38 : decode cX2_findHearers 38 = .ok (.aaload, 1) := by decide +kernel
theorem dX2_findHearers_39 : decode cX2_findHearers 39 = .ok (.getfield 39, 3) := by decide +kernel
theorem dX2_findHearers_42 : decode cX2_findHearers 42 = .ok (.aload_n 0, 1) := by decide +kernel
theorem dX2_findHearers_43 : decode cX2_findHearers 43 = .ok (.getfield 11, 3) := by decide +kernel
theorem dX2_findHearers_46 : decode cX2_findHearers 46 = .ok (.iload_n 1, 1) := by decide +kernel
theorem dX2_findHearers_47 : decode cX2_findHearers 47 = .ok (.aaload, 1) := by decide +kernel
theorem dX2_findHearers_48 : decode cX2_findHearers 48 = .ok (.getfield 39, 3) := by decide +kernel
theorem dX2_findHearers_51 : decode cX2_findHearers 51 = .ok (.imul, 1) := by decide +kernel
theorem dX2_findHearers_52 : decode cX2_findHearers 52 = .ok (.if_icmp .gt 9, 3) := by decide +kernel
theorem dX2_findHearers_55 : decode cX2_findHearers 55 = .ok (.iload_n 2, 1) := by decide +kernel
theorem dX2_findHearers_56 : decode cX2_findHearers 56 = .ok (.iconst 1, 1) := by decide +kernel
theorem dX2_findHearers_57 : decode cX2_findHearers 57 = .ok (.iload_n 3, 1) := by decide +kernel
theorem dX2_findHearers_58 : decode cX2_findHearers 58 = .ok (.ishl, 1) := by decide +kernel
theorem dX2_findHearers_59 : decode cX2_findHearers 59 = .ok (.ior, 1) := by decide +kernel
theorem dX2_findHearers_60 : decode cX2_findHearers 60 = .ok (.istore_n 2, 1) := by decide +kernel
theorem dX2_findHearers_61 : decode cX2_findHearers 61 = .ok (.iinc 3 1, 3) := by decide +kernel
theorem dX2_findHearers_64 : decode cX2_findHearers 64 = .ok (.goto (-50), 3) := by decide +kernel
theorem dX2_findHearers_67 : decode cX2_findHearers 67 = .ok (.aload_n 0, 1) := by decide +kernel
theorem dX2_findHearers_68 : decode cX2_findHearers 68 = .ok (.getfield 17, 3) := by decide +kernel
theorem dX2_findHearers_71 : decode cX2_findHearers 71 = .ok (.iload_n 1, 1) := by decide +kernel
theorem dX2_findHearers_72 : decode cX2_findHearers 72 = .ok (.iload_n 2, 1) := by decide +kernel
theorem dX2_findHearers_73 : decode cX2_findHearers 73 = .ok (.iastore, 1) := by decide +kernel
theorem dX2_findHearers_74 : decode cX2_findHearers 74 = .ok (.iinc 1 1, 3) := by decide +kernel
theorem dX2_findHearers_77 : decode cX2_findHearers 77 = .ok (.goto (-75), 3) := by decide +kernel
theorem dX2_findHearers_80 : decode cX2_findHearers 80 = .ok (.return_, 1) := by decide +kernel
theorem dX2_far_0 : decode cX2_far 0 = .ok (.aload_n 0, 1) := by decide +kernel
theorem dX2_far_1 : decode cX2_far 1 = .ok (.getfield 11, 3) := by decide +kernel
theorem dX2_far_4 : decode cX2_far 4 = .ok (.iload_n 1, 1) := by decide +kernel
theorem dX2_far_5 : decode cX2_far 5 = .ok (.aaload, 1) := by decide +kernel
theorem dX2_far_6 : decode cX2_far 6 = .ok (.getfield 26, 3) := by decide +kernel
theorem dX2_far_9 : decode cX2_far 9 = .ok (.aload_n 0, 1) := by decide +kernel
theorem dX2_far_10 : decode cX2_far 10 = .ok (.getfield 11, 3) := by decide +kernel
theorem dX2_far_13 : decode cX2_far 13 = .ok (.iload_n 2, 1) := by decide +kernel
theorem dX2_far_14 : decode cX2_far 14 = .ok (.aaload, 1) := by decide +kernel
theorem dX2_far_15 : decode cX2_far 15 = .ok (.getfield 26, 3) := by decide +kernel
theorem dX2_far_18 : decode cX2_far 18 = .ok (.isub, 1) := by decide +kernel
theorem dX2_far_19 : decode cX2_far 19 = .ok (.istore_n 3, 1) := by decide +kernel
theorem dX2_far_20 : decode cX2_far 20 = .ok (.aload_n 0, 1) := by decide +kernel
theorem dX2_far_21 : decode cX2_far 21 = .ok (.getfield 11, 3) := by decide +kernel
theorem dX2_far_24 : decode cX2_far 24 = .ok (.iload_n 1, 1) := by decide +kernel
theorem dX2_far_25 : decode cX2_far 25 = .ok (.aaload, 1) := by decide +kernel
theorem dX2_far_26 : decode cX2_far 26 = .ok (.getfield 29, 3) := by decide +kernel
theorem dX2_far_29 : decode cX2_far 29 = .ok (.aload_n 0, 1) := by decide +kernel
theorem dX2_far_30 : decode cX2_far 30 = .ok (.getfield 11, 3) := by decide +kernel
theorem dX2_far_33 : decode cX2_far 33 = .ok (.iload_n 2, 1) := by decide +kernel
theorem dX2_far_34 : decode cX2_far 34 = .ok (.aaload, 1) := by decide +kernel
theorem dX2_far_35 : decode cX2_far 35 = .ok (.getfield 29, 3) := by decide +kernel
theorem dX2_far_38 : decode cX2_far 38 = .ok (.isub, 1) := by decide +kernel
theorem dX2_far_39 : decode cX2_far 39 = .ok (.istore 4, 2) := by decide +kernel
theorem dX2_far_41 : decode cX2_far 41 = .ok (.iload_n 3, 1) := by decide +kernel
theorem dX2_far_42 : decode cX2_far 42 = .ok (.iload_n 3, 1) := by decide +kernel
theorem dX2_far_43 : decode cX2_far 43 = .ok (.imul, 1) := by decide +kernel
theorem dX2_far_44 : decode cX2_far 44 = .ok (.iload 4, 2) := by decide +kernel
theorem dX2_far_46 : decode cX2_far 46 = .ok (.iload 4, 2) := by decide +kernel
theorem dX2_far_48 : decode cX2_far 48 = .ok (.imul, 1) := by decide +kernel
theorem dX2_far_49 : decode cX2_far 49 = .ok (.iadd, 1) := by decide +kernel
theorem dX2_far_50 : decode cX2_far 50 = .ok (.ireturn, 1) := by decide +kernel
theorem dX2_canHear_0 : decode cX2_canHear 0 = .ok (.aload_n 0, 1) := by decide +kernel
theorem dX2_canHear_1 : decode cX2_canHear 1 = .ok (.iload_n 1, 1) := by decide +kernel
theorem dX2_canHear_2 : decode cX2_canHear 2 = .ok (.invokevirtual 50, 3) := by decide +kernel
theorem dX2_canHear_5 : decode cX2_canHear 5 = .ok (.ifCond .eq 28, 3) := by decide +kernel
theorem dX2_canHear_8 : decode cX2_canHear 8 = .ok (.aload_n 0, 1) := by decide +kernel
theorem dX2_canHear_9 : decode cX2_canHear 9 = .ok (.iload_n 2, 1) := by decide +kernel
theorem dX2_canHear_10 : decode cX2_canHear 10 = .ok (.invokevirtual 50, 3) := by decide +kernel
theorem dX2_canHear_13 : decode cX2_canHear 13 = .ok (.ifCond .eq 20, 3) := by decide +kernel
theorem dX2_canHear_16 : decode cX2_canHear 16 = .ok (.aload_n 0, 1) := by decide +kernel
theorem dX2_canHear_17 : decode cX2_canHear 17 = .ok (.getfield 17, 3) := by decide +kernel
theorem dX2_canHear_20 : decode cX2_canHear 20 = .ok (.iload_n 2, 1) := by decide +kernel
theorem dX2_canHear_21 : decode cX2_canHear 21 = .ok (.iaload, 1) := by decide +kernel
theorem dX2_canHear_22 : decode cX2_canHear 22 = .ok (.iload_n 1, 1) := by decide +kernel
theorem dX2_canHear_23 : decode cX2_canHear 23 = .ok (.invokestatic 54, 3) := by decide +kernel
theorem dX2_canHear_26 : decode cX2_canHear 26 = .ok (.ifCond .eq 7, 3) := by decide +kernel
theorem dX2_canHear_29 : decode cX2_canHear 29 = .ok (.iconst 1, 1) := by decide +kernel
theorem dX2_canHear_30 : decode cX2_canHear 30 = .ok (.goto 4, 3) := by decide +kernel
theorem dX2_canHear_33 : decode cX2_canHear 33 = .ok (.iconst 0, 1) := by decide +kernel
theorem dX2_canHear_34 : decode cX2_canHear 34 = .ok (.ireturn, 1) := by decide +kernel
theorem dX2_areLinked_0 : decode cX2_areLinked 0 = .ok (.aload_n 0, 1) := by decide +kernel
theorem dX2_areLinked_1 : decode cX2_areLinked 1 = .ok (.iload_n 1, 1) := by decide +kernel
theorem dX2_areLinked_2 : decode cX2_areLinked 2 = .ok (.iload_n 2, 1) := by decide +kernel
theorem dX2_areLinked_3 : decode cX2_areLinked 3 = .ok (.invokevirtual 58, 3) := by decide +kernel
theorem dX2_areLinked_6 : decode cX2_areLinked 6 = .ok (.ifCond .eq 16, 3) := by decide +kernel
theorem dX2_areLinked_9 : decode cX2_areLinked 9 = .ok (.aload_n 0, 1) := by decide +kernel
theorem dX2_areLinked_10 : decode cX2_areLinked 10 = .ok (.iload_n 2, 1) := by decide +kernel
theorem dX2_areLinked_11 : decode cX2_areLinked 11 = .ok (.iload_n 1, 1) := by decide +kernel
theorem dX2_areLinked_12 : decode cX2_areLinked 12 = .ok (.invokevirtual 58, 3) := by decide +kernel
theorem dX2_areLinked_15 : decode cX2_areLinked 15 = .ok (.ifCond .eq 7, 3) := by decide +kernel
theorem dX2_areLinked_18 : decode cX2_areLinked 18 = .ok (.iconst 1, 1) := by decide +kernel
theorem dX2_areLinked_19 : decode cX2_areLinked 19 = .ok (.goto 4, 3) := by decide +kernel
theorem dX2_areLinked_22 : decode cX2_areLinked 22 = .ok (.iconst 0, 1) := by decide +kernel
theorem dX2_areLinked_23 : decode cX2_areLinked 23 = .ok (.ireturn, 1) := by decide +kernel
theorem dX2_linkedWith_0 : decode cX2_linkedWith 0 = .ok (.iconst 0, 1) := by decide +kernel
theorem dX2_linkedWith_1 : decode cX2_linkedWith 1 = .ok (.istore_n 2, 1) := by decide +kernel
theorem dX2_linkedWith_2 : decode cX2_linkedWith 2 = .ok (.iconst 0, 1) := by decide +kernel
theorem dX2_linkedWith_3 : decode cX2_linkedWith 3 = .ok (.istore_n 3, 1) := by decide +kernel
theorem dX2_linkedWith_4 : decode cX2_linkedWith 4 = .ok (.iload_n 3, 1) := by decide +kernel
theorem dX2_linkedWith_5 : decode cX2_linkedWith 5 = .ok (.aload_n 0, 1) := by decide +kernel
theorem dX2_linkedWith_6 : decode cX2_linkedWith 6 = .ok (.getfield 21, 3) := by decide +kernel
theorem dX2_linkedWith_9 : decode cX2_linkedWith 9 = .ok (.if_icmp .ge 24, 3) := by decide +kernel
theorem dX2_linkedWith_12 : decode cX2_linkedWith 12 = .ok (.aload_n 0, 1) := by decide +kernel
theorem dX2_linkedWith_13 : decode cX2_linkedWith 13 = .ok (.iload_n 1, 1) := by decide +kernel
theorem dX2_linkedWith_14 : decode cX2_linkedWith 14 = .ok (.iload_n 3, 1) := by decide +kernel
theorem dX2_linkedWith_15 : decode cX2_linkedWith 15 = .ok (.invokevirtual 61, 3) := by decide +kernel
theorem dX2_linkedWith_18 : decode cX2_linkedWith 18 = .ok (.ifCond .eq 9, 3) := by decide +kernel
theorem dX2_linkedWith_21 : decode cX2_linkedWith 21 = .ok (.iload_n 2, 1) := by decide +kernel
theorem dX2_linkedWith_22 : decode cX2_linkedWith 22 = .ok (.iconst 1, 1) := by decide +kernel
theorem dX2_linkedWith_23 : decode cX2_linkedWith 23 = .ok (.iload_n 3, 1) := by decide +kernel
theorem dX2_linkedWith_24 : decode cX2_linkedWith 24 = .ok (.ishl, 1) := by decide +kernel
theorem dX2_linkedWith_25 : decode cX2_linkedWith 25 = .ok (.ior, 1) := by decide +kernel
theorem dX2_linkedWith_26 : decode cX2_linkedWith 26 = .ok (.istore_n 2, 1) := by decide +kernel
theorem dX2_linkedWith_27 : decode cX2_linkedWith 27 = .ok (.iinc 3 1, 3) := by decide +kernel
theorem dX2_linkedWith_30 : decode cX2_linkedWith 30 = .ok (.goto (-26), 3) := by decide +kernel
theorem dX2_linkedWith_33 : decode cX2_linkedWith 33 = .ok (.iload_n 2, 1) := by decide +kernel
theorem dX2_linkedWith_34 : decode cX2_linkedWith 34 = .ok (.ireturn, 1) := by decide +kernel
theorem dX2_hearsOneOf_0 : decode cX2_hearsOneOf 0 = .ok (.iconst 0, 1) := by decide +kernel
theorem dX2_hearsOneOf_1 : decode cX2_hearsOneOf 1 = .ok (.istore_n 3, 1) := by decide +kernel
theorem dX2_hearsOneOf_2 : decode cX2_hearsOneOf 2 = .ok (.iload_n 3, 1) := by decide +kernel
theorem dX2_hearsOneOf_3 : decode cX2_hearsOneOf 3 = .ok (.aload_n 0, 1) := by decide +kernel
theorem dX2_hearsOneOf_4 : decode cX2_hearsOneOf 4 = .ok (.getfield 21, 3) := by decide +kernel
theorem dX2_hearsOneOf_7 : decode cX2_hearsOneOf 7 = .ok (.if_icmp .ge 28, 3) := by decide +kernel
theorem dX2_hearsOneOf_10 : decode cX2_hearsOneOf 10 = .ok (.iload_n 2, 1) := by decide +kernel
theorem dX2_hearsOneOf_11 : decode cX2_hearsOneOf 11 = .ok (.iload_n 3, 1) := by decide +kernel
theorem dX2_hearsOneOf_12 : decode cX2_hearsOneOf 12 = .ok (.invokestatic 54, 3) := by decide +kernel
theorem dX2_hearsOneOf_15 : decode cX2_hearsOneOf 15 = .ok (.ifCond .eq 14, 3) := by decide +kernel
theorem dX2_hearsOneOf_18 : decode cX2_hearsOneOf 18 = .ok (.aload_n 0, 1) := by decide +kernel
theorem dX2_hearsOneOf_19 : decode cX2_hearsOneOf 19 = .ok (.iload_n 1, 1) := by decide +kernel
theorem dX2_hearsOneOf_20 : decode cX2_hearsOneOf 20 = .ok (.iload_n 3, 1) := by decide +kernel
theorem dX2_hearsOneOf_21 : decode cX2_hearsOneOf 21 = .ok (.invokevirtual 58, 3) := by decide +kernel
theorem dX2_hearsOneOf_24 : decode cX2_hearsOneOf 24 = .ok (.ifCond .eq 5, 3) := by decide +kernel
theorem dX2_hearsOneOf_27 : decode cX2_hearsOneOf 27 = .ok (.iconst 1, 1) := by decide +kernel
theorem dX2_hearsOneOf_28 : decode cX2_hearsOneOf 28 = .ok (.ireturn, 1) := by decide +kernel
theorem dX2_hearsOneOf_29 : decode cX2_hearsOneOf 29 = .ok (.iinc 3 1, 3) := by decide +kernel
theorem dX2_hearsOneOf_32 : decode cX2_hearsOneOf 32 = .ok (.goto (-30), 3) := by decide +kernel
theorem dX2_hearsOneOf_35 : decode cX2_hearsOneOf 35 = .ok (.iconst 0, 1) := by decide +kernel
theorem dX2_hearsOneOf_36 : decode cX2_hearsOneOf 36 = .ok (.ireturn, 1) := by decide +kernel
theorem dX2_gets_0 : decode cX2_gets 0 = .ok (.iload_n 3, 1) := by decide +kernel
theorem dX2_gets_1 : decode cX2_gets 1 = .ok (.iload_n 1, 1) := by decide +kernel
theorem dX2_gets_2 : decode cX2_gets 2 = .ok (.invokestatic 54, 3) := by decide +kernel
theorem dX2_gets_5 : decode cX2_gets 5 = .ok (.ifCond .ne 12, 3) := by decide +kernel
theorem dX2_gets_8 : decode cX2_gets 8 = .ok (.aload_n 0, 1) := by decide +kernel
theorem dX2_gets_9 : decode cX2_gets 9 = .ok (.iload_n 1, 1) := by decide +kernel
theorem dX2_gets_10 : decode cX2_gets 10 = .ok (.iload_n 2, 1) := by decide +kernel
theorem dX2_gets_11 : decode cX2_gets 11 = .ok (.invokevirtual 58, 3) := by decide +kernel
theorem dX2_gets_14 : decode cX2_gets 14 = .ok (.ifCond .ne 5, 3) := by decide +kernel
theorem dX2_gets_17 : decode cX2_gets 17 = .ok (.iconst 0, 1) := by decide +kernel
theorem dX2_gets_18 : decode cX2_gets 18 = .ok (.ireturn, 1) := by decide +kernel
theorem dX2_gets_19 : decode cX2_gets 19 = .ok (.iconst 4, 1) := by decide +kernel
theorem dX2_gets_20 : decode cX2_gets 20 = .ok (.aload_n 0, 1) := by decide +kernel
theorem dX2_gets_21 : decode cX2_gets 21 = .ok (.iload_n 2, 1) := by decide +kernel
theorem dX2_gets_22 : decode cX2_gets 22 = .ok (.iload_n 1, 1) := by decide +kernel
theorem dX2_gets_23 : decode cX2_gets 23 = .ok (.invokevirtual 46, 3) := by decide +kernel
theorem dX2_gets_26 : decode cX2_gets 26 = .ok (.imul, 1) := by decide +kernel
theorem dX2_gets_27 : decode cX2_gets 27 = .ok (.istore 4, 2) := by decide +kernel
theorem dX2_gets_29 : decode cX2_gets 29 = .ok (.iconst 0, 1) := by decide +kernel
theorem dX2_gets_30 : decode cX2_gets 30 = .ok (.istore 5, 2) := by decide +kernel
theorem dX2_gets_32 : decode cX2_gets 32 = .ok (.iload 5, 2) := by decide +kernel
theorem dX2_gets_34 : decode cX2_gets 34 = .ok (.aload_n 0, 1) := by decide +kernel
theorem dX2_gets_35 : decode cX2_gets 35 = .ok (.getfield 21, 3) := by decide +kernel
theorem dX2_gets_38 : decode cX2_gets 38 = .ok (.if_icmp .ge 60, 3) := by decide +kernel
theorem dX2_gets_41 : decode cX2_gets 41 = .ok (.iload 5, 2) := by decide +kernel
theorem dX2_gets_43 : decode cX2_gets 43 = .ok (.iload_n 2, 1) := by decide +kernel
theorem dX2_gets_44 : decode cX2_gets 44 = .ok (.if_icmp .eq 26, 3) := by decide +kernel
theorem dX2_gets_47 : decode cX2_gets 47 = .ok (.iload_n 3, 1) := by decide +kernel
theorem dX2_gets_48 : decode cX2_gets 48 = .ok (.iload 5, 2) := by decide +kernel
theorem dX2_gets_50 : decode cX2_gets 50 = .ok (.invokestatic 54, 3) := by decide +kernel
theorem dX2_gets_53 : decode cX2_gets 53 = .ok (.ifCond .eq 17, 3) := by decide +kernel
theorem dX2_gets_56 : decode cX2_gets 56 = .ok (.aload_n 0, 1) := by decide +kernel
theorem dX2_gets_57 : decode cX2_gets 57 = .ok (.iload_n 1, 1) := by decide +kernel
theorem dX2_gets_58 : decode cX2_gets 58 = .ok (.iload 5, 2) := by decide +kernel
theorem dX2_gets_60 : decode cX2_gets 60 = .ok (.invokevirtual 58, 3) := by decide +kernel
theorem dX2_gets_63 : decode cX2_gets 63 = .ok (.ifCond .eq 7, 3) := by decide +kernel
theorem dX2_gets_66 : decode cX2_gets 66 = .ok (.iconst 1, 1) := by decide +kernel
theorem dX2_gets_67 : decode cX2_gets 67 = .ok (.goto 4, 3) := by decide +kernel
theorem dX2_gets_70 : decode cX2_gets 70 = .ok (.iconst 0, 1) := by decide +kernel
theorem dX2_gets_71 : decode cX2_gets 71 = .ok (.istore 6, 2) := by decide +kernel
theorem dX2_gets_73 : decode cX2_gets 73 = .ok (.iload 6, 2) := by decide +kernel
theorem dX2_gets_75 : decode cX2_gets 75 = .ok (.ifCond .eq 17, 3) := by decide +kernel
theorem dX2_gets_78 : decode cX2_gets 78 = .ok (.iload 4, 2) := by decide +kernel
theorem dX2_gets_80 : decode cX2_gets 80 = .ok (.aload_n 0, 1) := by decide +kernel
theorem dX2_gets_81 : decode cX2_gets 81 = .ok (.iload 5, 2) := by decide +kernel
theorem dX2_gets_83 : decode cX2_gets 83 = .ok (.iload_n 1, 1) := by decide +kernel
theorem dX2_gets_84 : decode cX2_gets 84 = .ok (.invokevirtual 46, 3) := by decide +kernel
theorem dX2_gets_87 : decode cX2_gets 87 = .ok (.if_icmp .le 5, 3) := by decide +kernel
theorem dX2_gets_90 : decode cX2_gets 90 = .ok (.iconst 0, 1) := by decide +kernel
theorem dX2_gets_91 : decode cX2_gets 91 = .ok (.ireturn, 1) := by decide +kernel
theorem dX2_gets_92 : decode cX2_gets 92 = .ok (.iinc 5 1, 3) := by decide +kernel
theorem dX2_gets_95 : decode cX2_gets 95 = .ok (.goto (-63), 3) := by decide +kernel
theorem dX2_gets_98 : decode cX2_gets 98 = .ok (.iconst 1, 1) := by decide +kernel
theorem dX2_gets_99 : decode cX2_gets 99 = .ok (.ireturn, 1) := by decide +kernel
theorem dX2_framesInQueues_0 : decode cX2_framesInQueues 0 = .ok (.iconst 0, 1) := by decide +kernel
theorem dX2_framesInQueues_1 : decode cX2_framesInQueues 1 = .ok (.istore_n 1, 1) := by decide +kernel
theorem dX2_framesInQueues_2 : decode cX2_framesInQueues 2 = .ok (.iconst 0, 1) := by decide +kernel
theorem dX2_framesInQueues_3 : decode cX2_framesInQueues 3 = .ok (.istore_n 2, 1) := by decide +kernel
theorem dX2_framesInQueues_4 : decode cX2_framesInQueues 4 = .ok (.iload_n 2, 1) := by decide +kernel
theorem dX2_framesInQueues_5 : decode cX2_framesInQueues 5 = .ok (.aload_n 0, 1) := by decide +kernel
theorem dX2_framesInQueues_6 : decode cX2_framesInQueues 6 = .ok (.getfield 21, 3) := by decide +kernel
theorem dX2_framesInQueues_9 : decode cX2_framesInQueues 9 = .ok (.if_icmp .ge 24, 3) := by decide +kernel
theorem dX2_framesInQueues_12 : decode cX2_framesInQueues 12 = .ok (.iload_n 1, 1) := by decide +kernel
theorem dX2_framesInQueues_13 : decode cX2_framesInQueues 13 = .ok (.aload_n 0, 1) := by decide +kernel
theorem dX2_framesInQueues_14 : decode cX2_framesInQueues 14 = .ok (.getfield 11, 3) := by decide +kernel
theorem dX2_framesInQueues_17 : decode cX2_framesInQueues 17 = .ok (.iload_n 2, 1) := by decide +kernel
theorem dX2_framesInQueues_18 : decode cX2_framesInQueues 18 = .ok (.aaload, 1) := by decide +kernel
theorem dX2_framesInQueues_19 : decode cX2_framesInQueues 19 = .ok (.getfield 64, 3) := by decide +kernel
theorem dX2_framesInQueues_22 : decode cX2_framesInQueues 22 = .ok (.getfield 68, 3) := by decide +kernel
theorem dX2_framesInQueues_25 : decode cX2_framesInQueues 25 = .ok (.iadd, 1) := by decide +kernel
theorem dX2_framesInQueues_26 : decode cX2_framesInQueues 26 = .ok (.istore_n 1, 1) := by decide +kernel
theorem dX2_framesInQueues_27 : decode cX2_framesInQueues 27 = .ok (.iinc 2 1, 3) := by decide +kernel
theorem dX2_framesInQueues_30 : decode cX2_framesInQueues 30 = .ok (.goto (-26), 3) := by decide +kernel
theorem dX2_framesInQueues_33 : decode cX2_framesInQueues 33 = .ok (.iload_n 1, 1) := by decide +kernel
theorem dX2_framesInQueues_34 : decode cX2_framesInQueues 34 = .ok (.ireturn, 1) := by decide +kernel
theorem dX2_isSuspect_0 : decode cX2_isSuspect 0 = .ok (.aload_n 0, 1) := by decide +kernel
theorem dX2_isSuspect_1 : decode cX2_isSuspect 1 = .ok (.getfield 11, 3) := by decide +kernel
theorem dX2_isSuspect_4 : decode cX2_isSuspect 4 = .ok (.iload_n 1, 1) := by decide +kernel
theorem dX2_isSuspect_5 : decode cX2_isSuspect 5 = .ok (.aaload, 1) := by decide +kernel
theorem dX2_isSuspect_6 : decode cX2_isSuspect 6 = .ok (.getfield 73, 3) := by decide +kernel
theorem dX2_isSuspect_9 : decode cX2_isSuspect 9 = .ok (.i2l, 1) := by decide +kernel
theorem dX2_isSuspect_10 : decode cX2_isSuspect 10 = .ok (.lstore_n 2, 1) := by decide +kernel
theorem dX2_isSuspect_11 : decode cX2_isSuspect 11 = .ok (.aload_n 0, 1) := by decide +kernel
theorem dX2_isSuspect_12 : decode cX2_isSuspect 12 = .ok (.getfield 11, 3) := by decide +kernel
theorem dX2_isSuspect_15 : decode cX2_isSuspect 15 = .ok (.iload_n 1, 1) := by decide +kernel
theorem dX2_isSuspect_16 : decode cX2_isSuspect 16 = .ok (.aaload, 1) := by decide +kernel
theorem dX2_isSuspect_17 : decode cX2_isSuspect 17 = .ok (.getfield 76, 3) := by decide +kernel
theorem dX2_isSuspect_20 : decode cX2_isSuspect 20 = .ok (.i2l, 1) := by decide +kernel
theorem dX2_isSuspect_21 : decode cX2_isSuspect 21 = .ok (.lstore 4, 2) := by decide +kernel
theorem dX2_isSuspect_23 : decode cX2_isSuspect 23 = .ok (.lconst 0, 1) := by decide +kernel
theorem dX2_isSuspect_24 : decode cX2_isSuspect 24 = .ok (.lstore 6, 2) := by decide +kernel
theorem dX2_isSuspect_26 : decode cX2_isSuspect 26 = .ok (.lconst 0, 1) := by decide +kernel
theorem dX2_isSuspect_27 : decode cX2_isSuspect 27 = .ok (.lstore 8, 2) := by decide +kernel
theorem dX2_isSuspect_29 : decode cX2_isSuspect 29 = .ok (.iconst 0, 1) := by decide +kernel
theorem dX2_isSuspect_30 : decode cX2_isSuspect 30 = .ok (.istore 10, 2) := by decide +kernel
theorem dX2_isSuspect_32 : decode cX2_isSuspect 32 = .ok (.iload 10, 2) := by decide +kernel
theorem dX2_isSuspect_34 : decode cX2_isSuspect 34 = .ok (.aload_n 0, 1) := by decide +kernel
theorem dX2_isSuspect_35 : decode cX2_isSuspect 35 = .ok (.getfield 21, 3) := by decide +kernel
theorem dX2_isSuspect_38 : decode cX2_isSuspect 38 = .ok (.if_icmp .ge 47, 3) := by decide +kernel
theorem dX2_isSuspect_41 : decode cX2_isSuspect 41 = .ok (.iload 10, 2) := by decide +kernel
theorem dX2_isSuspect_43 : decode cX2_isSuspect 43 = .ok (.iload_n 1, 1) := by decide +kernel
theorem dX2_isSuspect_44 : decode cX2_isSuspect 44 = .ok (.if_icmp .eq 35, 3) := by decide +kernel
theorem dX2_isSuspect_47 : decode cX2_isSuspect 47 = .ok (.lload 6, 2) := by decide +kernel
theorem dX2_isSuspect_49 : decode cX2_isSuspect 49 = .ok (.aload_n 0, 1) := by decide +kernel
theorem dX2_isSuspect_50 : decode cX2_isSuspect 50 = .ok (.getfield 11, 3) := by decide +kernel
theorem dX2_isSuspect_53 : decode cX2_isSuspect 53 = .ok (.iload 10, 2) := by decide +kernel
theorem dX2_isSuspect_55 : decode cX2_isSuspect 55 = .ok (.aaload, 1) := by decide +kernel
theorem dX2_isSuspect_56 : decode cX2_isSuspect 56 = .ok (.getfield 73, 3) := by decide +kernel
theorem dX2_isSuspect_59 : decode cX2_isSuspect 59 = .ok (.i2l, 1) := by decide +kernel
theorem dX2_isSuspect_60 : decode cX2_isSuspect 60 = .ok (.ladd, 1) := by decide +kernel
theorem dX2_isSuspect_61 : decode cX2_isSuspect 61 = .ok (.lstore 6, 2) := by decide +kernel
theorem dX2_isSuspect_63 : decode cX2_isSuspect 63 = .ok (.lload 8, 2) := by decide +kernel
theorem dX2_isSuspect_65 : decode cX2_isSuspect 65 = .ok (.aload_n 0, 1) := by decide +kernel
theorem dX2_isSuspect_66 : decode cX2_isSuspect 66 = .ok (.getfield 11, 3) := by decide +kernel
theorem dX2_isSuspect_69 : decode cX2_isSuspect 69 = .ok (.iload 10, 2) := by decide +kernel
theorem dX2_isSuspect_71 : decode cX2_isSuspect 71 = .ok (.aaload, 1) := by decide +kernel
theorem dX2_isSuspect_72 : decode cX2_isSuspect 72 = .ok (.getfield 76, 3) := by decide +kernel
theorem dX2_isSuspect_75 : decode cX2_isSuspect 75 = .ok (.i2l, 1) := by decide +kernel
theorem dX2_isSuspect_76 : decode cX2_isSuspect 76 = .ok (.ladd, 1) := by decide +kernel
theorem dX2_isSuspect_77 : decode cX2_isSuspect 77 = .ok (.lstore 8, 2) := by decide +kernel
theorem dX2_isSuspect_79 : decode cX2_isSuspect 79 = .ok (.iinc 10 1, 3) := by decide +kernel
theorem dX2_isSuspect_82 : decode cX2_isSuspect 82 = .ok (.goto (-50), 3) := by decide +kernel
theorem dX2_isSuspect_85 : decode cX2_isSuspect 85 = .ok (.lload 4, 2) := by decide +kernel
theorem dX2_isSuspect_87 : decode cX2_isSuspect 87 = .ok (.ldc2_w 79, 3) := by decide +kernel
theorem dX2_isSuspect_90 : decode cX2_isSuspect 90 = .ok (.lcmp, 1) := by decide +kernel
theorem dX2_isSuspect_91 : decode cX2_isSuspect 91 = .ok (.ifCond .lt 24, 3) := by decide +kernel
theorem dX2_isSuspect_94 : decode cX2_isSuspect 94 = .ok (.ldc2_w 81, 3) := by decide +kernel
theorem dX2_isSuspect_97 : decode cX2_isSuspect 97 = .ok (.lload_n 2, 1) := by decide +kernel
theorem dX2_isSuspect_98 : decode cX2_isSuspect 98 = .ok (.lmul, 1) := by decide +kernel
theorem dX2_isSuspect_99 : decode cX2_isSuspect 99 = .ok (.lload 8, 2) := by decide +kernel
theorem dX2_isSuspect_101 : decode cX2_isSuspect 101 = .ok (.lmul, 1) := by decide +kernel
theorem dX2_isSuspect_102 : decode cX2_isSuspect 102 = .ok (.lload 6, 2) := by decide +kernel
theorem dX2_isSuspect_104 : decode cX2_isSuspect 104 = .ok (.lload 4, 2) := by decide +kernel
theorem dX2_isSuspect_106 : decode cX2_isSuspect 106 = .ok (.lmul, 1) := by decide +kernel
theorem dX2_isSuspect_107 : decode cX2_isSuspect 107 = .ok (.lcmp, 1) := by decide +kernel
theorem dX2_isSuspect_108 : decode cX2_isSuspect 108 = .ok (.ifCond .ge 7, 3) := by decide +kernel
theorem dX2_isSuspect_111 : decode cX2_isSuspect 111 = .ok (.iconst 1, 1) := by decide +kernel
theorem dX2_isSuspect_112 : decode cX2_isSuspect 112 = .ok (.goto 4, 3) := by decide +kernel
theorem dX2_isSuspect_115 : decode cX2_isSuspect 115 = .ok (.iconst 0, 1) := by decide +kernel
theorem dX2_isSuspect_116 : decode cX2_isSuspect 116 = .ok (.ireturn, 1) := by decide +kernel
theorem dX2_fewestCovering_0 : decode cX2_fewestCovering 0 = .ok (.aload_n 0, 1) := by decide +kernel
theorem dX2_fewestCovering_1 : decode cX2_fewestCovering 1 = .ok (.invokevirtual 83, 3) := by decide +kernel
theorem dX2_fewestCovering_4 : decode cX2_fewestCovering 4 = .ok (.istore_n 1, 1) := by decide +kernel
theorem dX2_fewestCovering_5 : decode cX2_fewestCovering 5 = .ok (.iconst 0, 1) := by decide +kernel
theorem dX2_fewestCovering_6 : decode cX2_fewestCovering 6 = .ok (.istore_n 2, 1) := by decide +kernel
theorem dX2_fewestCovering_7 : decode cX2_fewestCovering 7 = .ok (.iload_n 2, 1) := by decide +kernel
theorem dX2_fewestCovering_8 : decode cX2_fewestCovering 8 = .ok (.aload_n 0, 1) := by decide +kernel
theorem dX2_fewestCovering_9 : decode cX2_fewestCovering 9 = .ok (.invokevirtual 83, 3) := by decide +kernel
theorem dX2_fewestCovering_12 : decode cX2_fewestCovering 12 = .ok (.if_icmp .ge 30, 3) := by decide +kernel
theorem dX2_fewestCovering_15 : decode cX2_fewestCovering 15 = .ok (.iload_n 2, 1) := by decide +kernel
theorem dX2_fewestCovering_16 : decode cX2_fewestCovering 16 = .ok (.invokestatic 87, 3) := by decide +kernel
theorem dX2_fewestCovering_19 : decode cX2_fewestCovering 19 = .ok (.iload_n 1, 1) := by decide +kernel
theorem dX2_fewestCovering_20 : decode cX2_fewestCovering 20 = .ok (.invokestatic 87, 3) := by decide +kernel
theorem dX2_fewestCovering_23 : decode cX2_fewestCovering 23 = .ok (.if_icmp .ge 13, 3) := by decide +kernel
theorem dX2_fewestCovering_26 : decode cX2_fewestCovering 26 = .ok (.aload_n 0, 1) := by decide +kernel
theorem dX2_fewestCovering_27 : decode cX2_fewestCovering 27 = .ok (.iload_n 2, 1) := by decide +kernel
theorem dX2_fewestCovering_28 : decode cX2_fewestCovering 28 = .ok (.invokevirtual 93, 3) := by decide +kernel
theorem dX2_fewestCovering_31 : decode cX2_fewestCovering 31 = .ok (.ifCond .eq 5, 3) := by decide +kernel
theorem dX2_fewestCovering_34 : decode cX2_fewestCovering 34 = .ok (.iload_n 2, 1) := by decide +kernel
theorem dX2_fewestCovering_35 : decode cX2_fewestCovering 35 = .ok (.istore_n 1, 1) := by decide +kernel
theorem dX2_fewestCovering_36 : decode cX2_fewestCovering 36 = .ok (.iinc 2 1, 3) := by decide +kernel
theorem dX2_fewestCovering_39 : decode cX2_fewestCovering 39 = .ok (.goto (-32), 3) := by decide +kernel
theorem dX2_fewestCovering_42 : decode cX2_fewestCovering 42 = .ok (.iload_n 1, 1) := by decide +kernel
theorem dX2_fewestCovering_43 : decode cX2_fewestCovering 43 = .ok (.ireturn, 1) := by decide +kernel
theorem dX2_isCovering_0 : decode cX2_isCovering 0 = .ok (.iload_n 1, 1) := by decide +kernel
theorem dX2_isCovering_1 : decode cX2_isCovering 1 = .ok (.istore_n 2, 1) := by decide +kernel
theorem dX2_isCovering_2 : decode cX2_isCovering 2 = .ok (.iconst 0, 1) := by decide +kernel
theorem dX2_isCovering_3 : decode cX2_isCovering 3 = .ok (.istore_n 3, 1) := by decide +kernel
theorem dX2_isCovering_4 : decode cX2_isCovering 4 = .ok (.iload_n 3, 1) := by decide +kernel
theorem dX2_isCovering_5 : decode cX2_isCovering 5 = .ok (.aload_n 0, 1) := by decide +kernel
theorem dX2_isCovering_6 : decode cX2_isCovering 6 = .ok (.getfield 21, 3) := by decide +kernel
theorem dX2_isCovering_9 : decode cX2_isCovering 9 = .ok (.if_icmp .ge 26, 3) := by decide +kernel
theorem dX2_isCovering_12 : decode cX2_isCovering 12 = .ok (.iload_n 1, 1) := by decide +kernel
theorem dX2_isCovering_13 : decode cX2_isCovering 13 = .ok (.iload_n 3, 1) := by decide +kernel
theorem dX2_isCovering_14 : decode cX2_isCovering 14 = .ok (.invokestatic 54, 3) := by decide +kernel
theorem dX2_isCovering_17 : decode cX2_isCovering 17 = .ok (.ifCond .eq 12, 3) := by decide +kernel
theorem dX2_isCovering_20 : decode cX2_isCovering 20 = .ok (.iload_n 2, 1) := by decide +kernel
theorem dX2_isCovering_21 : decode cX2_isCovering 21 = .ok (.aload_n 0, 1) := by decide +kernel
theorem dX2_isCovering_22 : decode cX2_isCovering 22 = .ok (.getfield 17, 3) := by decide +kernel
theorem dX2_isCovering_25 : decode cX2_isCovering 25 = .ok (.iload_n 3, 1) := by decide +kernel
theorem dX2_isCovering_26 : decode cX2_isCovering 26 = .ok (.iaload, 1) := by decide +kernel
theorem dX2_isCovering_27 : decode cX2_isCovering 27 = .ok (.ior, 1) := by decide +kernel
theorem dX2_isCovering_28 : decode cX2_isCovering 28 = .ok (.istore_n 2, 1) := by decide +kernel
theorem dX2_isCovering_29 : decode cX2_isCovering 29 = .ok (.iinc 3 1, 3) := by decide +kernel
theorem dX2_isCovering_32 : decode cX2_isCovering 32 = .ok (.goto (-28), 3) := by decide +kernel
theorem dX2_isCovering_35 : decode cX2_isCovering 35 = .ok (.iload_n 2, 1) := by decide +kernel
theorem dX2_isCovering_36 : decode cX2_isCovering 36 = .ok (.aload_n 0, 1) := by decide +kernel
theorem dX2_isCovering_37 : decode cX2_isCovering 37 = .ok (.invokevirtual 83, 3) := by decide +kernel
theorem dX2_isCovering_40 : decode cX2_isCovering 40 = .ok (.if_icmp .ne 7, 3) := by decide +kernel
theorem dX2_isCovering_43 : decode cX2_isCovering 43 = .ok (.iconst 1, 1) := by decide +kernel
theorem dX2_isCovering_44 : decode cX2_isCovering 44 = .ok (.goto 4, 3) := by decide +kernel
theorem dX2_isCovering_47 : decode cX2_isCovering 47 = .ok (.iconst 0, 1) := by decide +kernel
theorem dX2_isCovering_48 : decode cX2_isCovering 48 = .ok (.ireturn, 1) := by decide +kernel
theorem dX3_init_0 : decode cX3_init 0 = .ok (.aload_n 0, 1) := by decide +kernel
theorem dX3_init_1 : decode cX3_init 1 = .ok (.invokespecial 3, 3) := by decide +kernel
theorem dX3_init_4 : decode cX3_init 4 = .ok (.aload_n 0, 1) := by decide +kernel
theorem dX3_init_5 : decode cX3_init 5 = .ok (.bipush 10, 2) := by decide +kernel
theorem dX3_init_7 : decode cX3_init 7 = .ok (.newarray .int, 2) := by decide +kernel
theorem dX3_init_9 : decode cX3_init 9 = .ok (.putfield 9, 3) := by decide +kernel
theorem dX3_init_12 : decode cX3_init 12 = .ok (.aload_n 0, 1) := by decide +kernel
theorem dX3_init_13 : decode cX3_init 13 = .ok (.bipush 10, 2) := by decide +kernel
theorem dX3_init_15 : decode cX3_init 15 = .ok (.newarray .int, 2) := by decide +kernel
theorem dX3_init_17 : decode cX3_init 17 = .ok (.putfield 15, 3) := by decide +kernel
theorem dX3_init_20 : decode cX3_init 20 = .ok (.aload_n 0, 1) := by decide +kernel
theorem dX3_init_21 : decode cX3_init 21 = .ok (.sipush 1024, 3) := by decide +kernel
theorem dX3_init_24 : decode cX3_init 24 = .ok (.newarray .int, 2) := by decide +kernel
theorem dX3_init_26 : decode cX3_init 26 = .ok (.putfield 18, 3) := by decide +kernel
theorem dX3_init_29 : decode cX3_init 29 = .ok (.aload_n 0, 1) := by decide +kernel
theorem dX3_init_30 : decode cX3_init 30 = .ok (.sipush 1024, 3) := by decide +kernel
theorem dX3_init_33 : decode cX3_init 33 = .ok (.newarray .int, 2) := by decide +kernel
theorem dX3_init_35 : decode cX3_init 35 = .ok (.putfield 21, 3) := by decide +kernel
theorem dX3_init_38 : decode cX3_init 38 = .ok (.aload_n 0, 1) := by decide +kernel
theorem dX3_init_39 : decode cX3_init 39 = .ok (.iconst 5, 1) := by decide +kernel
theorem dX3_init_40 : decode cX3_init 40 = .ok (.newarray .int, 2) := by decide +kernel
theorem dX3_init_42 : decode cX3_init 42 = .ok (.putfield 24, 3) := by decide +kernel
theorem dX3_init_45 : decode cX3_init 45 = .ok (.aload_n 0, 1) := by decide +kernel
theorem dX3_init_46 : decode cX3_init 46 = .ok (.iconst 0, 1) := by decide +kernel
theorem dX3_init_47 : decode cX3_init 47 = .ok (.putfield 27, 3) := by decide +kernel
theorem dX3_init_50 : decode cX3_init 50 = .ok (.aload_n 0, 1) := by decide +kernel
theorem dX3_init_51 : decode cX3_init 51 = .ok (.iconst 0, 1) := by decide +kernel
theorem dX3_init_52 : decode cX3_init 52 = .ok (.putfield 31, 3) := by decide +kernel
theorem dX3_init_55 : decode cX3_init 55 = .ok (.aload_n 0, 1) := by decide +kernel
theorem dX3_init_56 : decode cX3_init 56 = .ok (.iconst 0, 1) := by decide +kernel
theorem dX3_init_57 : decode cX3_init 57 = .ok (.putfield 34, 3) := by decide +kernel
theorem dX3_init_60 : decode cX3_init 60 = .ok (.aload_n 0, 1) := by decide +kernel
theorem dX3_init_61 : decode cX3_init 61 = .ok (.iconst 0, 1) := by decide +kernel
theorem dX3_init_62 : decode cX3_init 62 = .ok (.putfield 37, 3) := by decide +kernel
theorem dX3_init_65 : decode cX3_init 65 = .ok (.return_, 1) := by decide +kernel
theorem dX3_add_0 : decode cX3_add 0 = .ok (.aload_n 0, 1) := by decide +kernel
theorem dX3_add_1 : decode cX3_add 1 = .ok (.getfield 27, 3) := by decide +kernel
theorem dX3_add_4 : decode cX3_add 4 = .ok (.istore 4, 2) := by decide +kernel
theorem dX3_add_6 : decode cX3_add 6 = .ok (.aload_n 0, 1) := by decide +kernel
theorem dX3_add_7 : decode cX3_add 7 = .ok (.dup, 1) := by decide +kernel
theorem dX3_add_8 : decode cX3_add 8 = .ok (.getfield 27, 3) := by decide +kernel
theorem dX3_add_11 : decode cX3_add 11 = .ok (.iconst 1, 1) := by decide +kernel
theorem dX3_add_12 : decode cX3_add 12 = .ok (.iadd, 1) := by decide +kernel
theorem dX3_add_13 : decode cX3_add 13 = .ok (.putfield 27, 3) := by decide +kernel
theorem dX3_add_16 : decode cX3_add 16 = .ok (.aload_n 0, 1) := by decide +kernel
theorem dX3_add_17 : decode cX3_add 17 = .ok (.getfield 9, 3) := by decide +kernel
theorem dX3_add_20 : decode cX3_add 20 = .ok (.iload 4, 2) := by decide +kernel
theorem dX3_add_22 : decode cX3_add 22 = .ok (.iload_n 1, 1) := by decide +kernel
theorem dX3_add_23 : decode cX3_add 23 = .ok (.iastore, 1) := by decide +kernel
theorem dX3_add_24 : decode cX3_add 24 = .ok (.aload_n 0, 1) := by decide +kernel
theorem dX3_add_25 : decode cX3_add 25 = .ok (.getfield 15, 3) := by decide +kernel
theorem dX3_add_28 : decode cX3_add 28 = .ok (.iload 4, 2) := by decide +kernel
theorem dX3_add_30 : decode cX3_add 30 = .ok (.iload_n 3, 1) := by decide +kernel
theorem dX3_add_31 : decode cX3_add 31 = .ok (.iastore, 1) := by decide +kernel
theorem dX3_add_32 : decode cX3_add 32 = .ok (.iload_n 2, 1) := by decide +kernel
theorem dX3_add_33 : decode cX3_add 33 = .ok (.iconst 1, 1) := by decide +kernel
theorem dX3_add_34 : decode cX3_add 34 = .ok (.bipush 6, 2) := by decide +kernel
theorem dX3_add_36 : decode cX3_add 36 = .ok (.iload_n 1, 1) := by decide +kernel
theorem dX3_add_37 : decode cX3_add 37 = .ok (.iadd, 1) := by decide +kernel
theorem dX3_add_38 : decode cX3_add 38 = .ok (.ishl, 1) := by decide +kernel
theorem dX3_add_39 : decode cX3_add 39 = .ok (.ior, 1) := by decide +kernel
theorem dX3_add_40 : decode cX3_add 40 = .ok (.istore 5, 2) := by decide +kernel
theorem dX3_add_42 : decode cX3_add 42 = .ok (.iconst 1, 1) := by decide +kernel
theorem dX3_add_43 : decode cX3_add 43 = .ok (.iload 4, 2) := by decide +kernel
theorem dX3_add_45 : decode cX3_add 45 = .ok (.ishl, 1) := by decide +kernel
theorem dX3_add_46 : decode cX3_add 46 = .ok (.istore 6, 2) := by decide +kernel
theorem dX3_add_48 : decode cX3_add 48 = .ok (.iconst 0, 1) := by decide +kernel
theorem dX3_add_49 : decode cX3_add 49 = .ok (.istore 7, 2) := by decide +kernel
theorem dX3_add_51 : decode cX3_add 51 = .ok (.iload 7, 2) := by decide +kernel
theorem dX3_add_53 : decode cX3_add 53 = .ok (.iload 6, 2) := by decide +kernel
theorem dX3_add_55 : decode cX3_add 55 = .ok (.if_icmp .ge 90, 3) := by decide +kernel
theorem dX3_add_58 : decode cX3_add 58 = .ok (.iload 7, 2) := by decide +kernel
theorem dX3_add_60 : decode cX3_add 60 = .ok (.iload 6, 2) := by decide +kernel
theorem dX3_add_62 : decode cX3_add 62 = .ok (.ior, 1) := by decide +kernel
theorem dX3_add_63 : decode cX3_add 63 = .ok (.istore 8, 2) := by decide +kernel
theorem dX3_add_65 : decode cX3_add 65 = .ok (.aload_n 0, 1) := by decide +kernel
theorem dX3_add_66 : decode cX3_add 66 = .ok (.getfield 21, 3) := by decide +kernel
theorem dX3_add_69 : decode cX3_add 69 = .ok (.iload 7, 2) := by decide +kernel
theorem dX3_add_71 : decode cX3_add 71 = .ok (.iaload, 1) := by decide +kernel
theorem dX3_add_72 : decode cX3_add 72 = .ok (.iconst (-1), 1) := by decide +kernel
theorem dX3_add_73 : decode cX3_add 73 = .ok (.if_icmp .eq 16, 3) := by decide +kernel
theorem dX3_add_76 : decode cX3_add 76 = .ok (.aload_n 0, 1) := by decide +kernel
theorem dX3_add_77 : decode cX3_add 77 = .ok (.getfield 18, 3) := by decide +kernel
theorem dX3_add_80 : decode cX3_add 80 = .ok (.iload 7, 2) := by decide +kernel
theorem dX3_add_82 : decode cX3_add 82 = .ok (.iaload, 1) := by decide +kernel
theorem dX3_add_83 : decode cX3_add 83 = .ok (.iload 5, 2) := by decide +kernel
theorem dX3_add_85 : decode cX3_add 85 = .ok (.iand, 1) := by decide +kernel
theorem dX3_add_86 : decode cX3_add 86 = .ok (.ifCond .eq 14, 3) := by decide +kernel
theorem dX3_add_89 : decode cX3_add 89 = .ok (.aload_n 0, 1) := by decide +kernel
theorem dX3_add_90 : decode cX3_add 90 = .ok (.getfield 21, 3) := by decide +kernel
theorem dX3_add_93 : decode cX3_add 93 = .ok (.iload 8, 2) := by decide +kernel
theorem dX3_add_95 : decode cX3_add 95 = .ok (.iconst (-1), 1) := by decide +kernel
theorem dX3_add_96 : decode cX3_add 96 = .ok (.iastore, 1) := by decide +kernel
theorem dX3_add_97 : decode cX3_add 97 = .ok (.goto 42, 3) := by decide +kernel
theorem dX3_add_100 : decode cX3_add 100 = .ok (.aload_n 0, 1) := by decide +kernel
theorem dX3_add_101 : decode cX3_add 101 = .ok (.getfield 21, 3) := by decide +kernel
theorem dX3_add_104 : decode cX3_add 104 = .ok (.iload 8, 2) := by decide +kernel
theorem dX3_add_106 : decode cX3_add 106 = .ok (.aload_n 0, 1) := by decide +kernel
theorem dX3_add_107 : decode cX3_add 107 = .ok (.getfield 21, 3) := by decide +kernel
theorem dX3_add_110 : decode cX3_add 110 = .ok (.iload 7, 2) := by decide +kernel
theorem dX3_add_112 : decode cX3_add 112 = .ok (.iaload, 1) := by decide +kernel
theorem dX3_add_113 : decode cX3_add 113 = .ok (.iload_n 3, 1) := by decide +kernel
theorem dX3_add_114 : decode cX3_add 114 = .ok (.iadd, 1) := by decide +kernel
theorem dX3_add_115 : decode cX3_add 115 = .ok (.iastore, 1) := by decide +kernel
theorem dX3_add_116 : decode cX3_add 116 = .ok (.aload_n 0, 1) := by decide +kernel
theorem dX3_add_117 : decode cX3_add 117 = .ok (.getfield 18, 3) := by decide +kernel
theorem dX3_add_120 : decode cX3_add 120 = .ok (.iload 8, 2) := by decide +kernel
theorem dX3_add_122 : decode cX3_add 122 = .ok (.aload_n 0, 1) := by decide +kernel
theorem dX3_add_123 : decode cX3_add 123 = .ok (.getfield 18, 3) := by decide +kernel
theorem dX3_add_126 : decode cX3_add 126 = .ok (.iload 7, 2) := by decide +kernel
theorem dX3_add_128 : decode cX3_add 128 = .ok (.iaload, 1) := by decide +kernel
theorem dX3_add_129 : decode cX3_add 129 = .ok (.iload 5, 2) := by decide +kernel
theorem dX3_add_131 : decode cX3_add 131 = .ok (.ior, 1) := by decide +kernel
theorem dX3_add_132 : decode cX3_add 132 = .ok (.iastore, 1) := by decide +kernel
theorem dX3_add_133 : decode cX3_add 133 = .ok (.aload_n 0, 1) := by decide +kernel
theorem dX3_add_134 : decode cX3_add 134 = .ok (.iload 8, 2) := by decide +kernel
theorem dX3_add_136 : decode cX3_add 136 = .ok (.invokevirtual 40, 3) := by decide +kernel
theorem dX3_add_139 : decode cX3_add 139 = .ok (.iinc 7 1, 3) := by decide +kernel
theorem dX3_add_142 : decode cX3_add 142 = .ok (.goto (-91), 3) := by decide +kernel
theorem dX3_add_145 : decode cX3_add 145 = .ok (.iload 4, 2) := by decide +kernel
theorem dX3_add_147 : decode cX3_add 147 = .ok (.ireturn, 1) := by decide +kernel
theorem dX3_weigh_0 : decode cX3_weigh 0 = .ok (.aload_n 0, 1) := by decide +kernel
theorem dX3_weigh_1 : decode cX3_weigh 1 = .ok (.getfield 21, 3) := by decide +kernel
theorem dX3_weigh_4 : decode cX3_weigh 4 = .ok (.iload_n 1, 1) := by decide +kernel
theorem dX3_weigh_5 : decode cX3_weigh 5 = .ok (.iaload, 1) := by decide +kernel
theorem dX3_weigh_6 : decode cX3_weigh 6 = .ok (.aload_n 0, 1) := by decide +kernel
theorem dX3_weigh_7 : decode cX3_weigh 7 = .ok (.getfield 34, 3) := by decide +kernel
theorem dX3_weigh_10 : decode cX3_weigh 10 = .ok (.if_icmp .le 18, 3) := by decide +kernel
theorem dX3_weigh_13 : decode cX3_weigh 13 = .ok (.aload_n 0, 1) := by decide +kernel
theorem dX3_weigh_14 : decode cX3_weigh 14 = .ok (.aload_n 0, 1) := by decide +kernel
theorem dX3_weigh_15 : decode cX3_weigh 15 = .ok (.getfield 21, 3) := by decide +kernel
theorem dX3_weigh_18 : decode cX3_weigh 18 = .ok (.iload_n 1, 1) := by decide +kernel
theorem dX3_weigh_19 : decode cX3_weigh 19 = .ok (.iaload, 1) := by decide +kernel
theorem dX3_weigh_20 : decode cX3_weigh 20 = .ok (.putfield 34, 3) := by decide +kernel
theorem dX3_weigh_23 : decode cX3_weigh 23 = .ok (.aload_n 0, 1) := by decide +kernel
theorem dX3_weigh_24 : decode cX3_weigh 24 = .ok (.iload_n 1, 1) := by decide +kernel
theorem dX3_weigh_25 : decode cX3_weigh 25 = .ok (.putfield 31, 3) := by decide +kernel
theorem dX3_weigh_28 : decode cX3_weigh 28 = .ok (.iconst 0, 1) := by decide +kernel
theorem dX3_weigh_29 : decode cX3_weigh 29 = .ok (.istore_n 2, 1) := by decide +kernel
theorem dX3_weigh_30 : decode cX3_weigh 30 = .ok (.iload_n 2, 1) := by decide +kernel
theorem dX3_weigh_31 : decode cX3_weigh 31 = .ok (.iconst 5, 1) := by decide +kernel
theorem dX3_weigh_32 : decode cX3_weigh 32 = .ok (.if_icmp .ge 52, 3) := by decide +kernel
theorem dX3_weigh_35 : decode cX3_weigh 35 = .ok (.aload_n 0, 1) := by decide +kernel
theorem dX3_weigh_36 : decode cX3_weigh 36 = .ok (.getfield 18, 3) := by decide +kernel
theorem dX3_weigh_39 : decode cX3_weigh 39 = .ok (.iload_n 1, 1) := by decide +kernel
theorem dX3_weigh_40 : decode cX3_weigh 40 = .ok (.iaload, 1) := by decide +kernel
theorem dX3_weigh_41 : decode cX3_weigh 41 = .ok (.bipush 6, 2) := by decide +kernel
theorem dX3_weigh_43 : decode cX3_weigh 43 = .ok (.iload_n 2, 1) := by decide +kernel
theorem dX3_weigh_44 : decode cX3_weigh 44 = .ok (.iadd, 1) := by decide +kernel
theorem dX3_weigh_45 : decode cX3_weigh 45 = .ok (.invokestatic 44, 3) := by decide +kernel
theorem dX3_weigh_48 : decode cX3_weigh 48 = .ok (.ifCond .ne 30, 3) := by decide +kernel
theorem dX3_weigh_51 : decode cX3_weigh 51 = .ok (.aload_n 0, 1) := by decide +kernel
theorem dX3_weigh_52 : decode cX3_weigh 52 = .ok (.getfield 21, 3) := by decide +kernel
theorem dX3_weigh_55 : decode cX3_weigh 55 = .ok (.iload_n 1, 1) := by decide +kernel
theorem dX3_weigh_56 : decode cX3_weigh 56 = .ok (.iaload, 1) := by decide +kernel
theorem dX3_weigh_57 : decode cX3_weigh 57 = .ok (.aload_n 0, 1) := by decide +kernel
theorem dX3_weigh_58 : decode cX3_weigh 58 = .ok (.getfield 24, 3) := by decide +kernel
theorem dX3_weigh_61 : decode cX3_weigh 61 = .ok (.iload_n 2, 1) := by decide +kernel
theorem dX3_weigh_62 : decode cX3_weigh 62 = .ok (.iaload, 1) := by decide +kernel
theorem dX3_weigh_63 : decode cX3_weigh 63 = .ok (.if_icmp .le 15, 3) := by decide +kernel
theorem dX3_weigh_66 : decode cX3_weigh 66 = .ok (.aload_n 0, 1) := by decide +kernel
theorem dX3_weigh_67 : decode cX3_weigh 67 = .ok (.getfield 24, 3) := by decide +kernel
theorem dX3_weigh_70 : decode cX3_weigh 70 = .ok (.iload_n 2, 1) := by decide +kernel
theorem dX3_weigh_71 : decode cX3_weigh 71 = .ok (.aload_n 0, 1) := by decide +kernel
theorem dX3_weigh_72 : decode cX3_weigh 72 = .ok (.getfield 21, 3) := by decide +kernel
theorem dX3_weigh_75 : decode cX3_weigh 75 = .ok (.iload_n 1, 1) := by decide +kernel
theorem dX3_weigh_76 : decode cX3_weigh 76 = .ok (.iaload, 1) := by decide +kernel
theorem dX3_weigh_77 : decode cX3_weigh 77 = .ok (.iastore, 1) := by decide +kernel
theorem dX3_weigh_78 : decode cX3_weigh 78 = .ok (.iinc 2 1, 3) := by decide +kernel
theorem dX3_weigh_81 : decode cX3_weigh 81 = .ok (.goto (-51), 3) := by decide +kernel
theorem dX3_weigh_84 : decode cX3_weigh 84 = .ok (.return_, 1) := by decide +kernel
theorem dX3_winningPrice_0 : decode cX3_winningPrice 0 = .ok (.iconst 0, 1) := by decide +kernel
theorem dX3_winningPrice_1 : decode cX3_winningPrice 1 = .ok (.istore_n 2, 1) := by decide +kernel
theorem dX3_winningPrice_2 : decode cX3_winningPrice 2 = .ok (.iload_n 2, 1) := by decide +kernel
theorem dX3_winningPrice_3 : decode cX3_winningPrice 3 = .ok (.aload_n 0, 1) := by decide +kernel
theorem dX3_winningPrice_4 : decode cX3_winningPrice 4 = .ok (.getfield 27, 3) := by decide +kernel
theorem dX3_winningPrice_7 : decode cX3_winningPrice 7 = .ok (.if_icmp .ge 37, 3) := by decide +kernel
theorem dX3_winningPrice_10 : decode cX3_winningPrice 10 = .ok (.aload_n 0, 1) := by decide +kernel
theorem dX3_winningPrice_11 : decode cX3_winningPrice 11 = .ok (.getfield 31, 3) := by decide +kernel
theorem dX3_winningPrice_14 : decode cX3_winningPrice 14 = .ok (.iload_n 2, 1) := by decide +kernel
theorem dX3_winningPrice_15 : decode cX3_winningPrice 15 = .ok (.invokestatic 44, 3) := by decide +kernel
theorem dX3_winningPrice_18 : decode cX3_winningPrice 18 = .ok (.ifCond .eq 20, 3) := by decide +kernel
theorem dX3_winningPrice_21 : decode cX3_winningPrice 21 = .ok (.aload_n 0, 1) := by decide +kernel
theorem dX3_winningPrice_22 : decode cX3_winningPrice 22 = .ok (.getfield 9, 3) := by decide +kernel
theorem dX3_winningPrice_25 : decode cX3_winningPrice 25 = .ok (.iload_n 2, 1) := by decide +kernel
theorem dX3_winningPrice_26 : decode cX3_winningPrice 26 = .ok (.iaload, 1) := by decide +kernel
theorem dX3_winningPrice_27 : decode cX3_winningPrice 27 = .ok (.iload_n 1, 1) := by decide +kernel
theorem dX3_winningPrice_28 : decode cX3_winningPrice 28 = .ok (.if_icmp .ne 10, 3) := by decide +kernel
theorem dX3_winningPrice_31 : decode cX3_winningPrice 31 = .ok (.aload_n 0, 1) := by decide +kernel
theorem dX3_winningPrice_32 : decode cX3_winningPrice 32 = .ok (.getfield 15, 3) := by decide +kernel
theorem dX3_winningPrice_35 : decode cX3_winningPrice 35 = .ok (.iload_n 2, 1) := by decide +kernel
theorem dX3_winningPrice_36 : decode cX3_winningPrice 36 = .ok (.iaload, 1) := by decide +kernel
theorem dX3_winningPrice_37 : decode cX3_winningPrice 37 = .ok (.ireturn, 1) := by decide +kernel
theorem dX3_winningPrice_38 : decode cX3_winningPrice 38 = .ok (.iinc 2 1, 3) := by decide +kernel
theorem dX3_winningPrice_41 : decode cX3_winningPrice 41 = .ok (.goto (-39), 3) := by decide +kernel
theorem dX3_winningPrice_44 : decode cX3_winningPrice 44 = .ok (.iconst 0, 1) := by decide +kernel
theorem dX3_winningPrice_45 : decode cX3_winningPrice 45 = .ok (.ireturn, 1) := by decide +kernel
theorem dX3_paidBy_0 : decode cX3_paidBy 0 = .ok (.aload_n 0, 1) := by decide +kernel
theorem dX3_paidBy_1 : decode cX3_paidBy 1 = .ok (.iload_n 1, 1) := by decide +kernel
theorem dX3_paidBy_2 : decode cX3_paidBy 2 = .ok (.invokevirtual 48, 3) := by decide +kernel
theorem dX3_paidBy_5 : decode cX3_paidBy 5 = .ok (.istore_n 2, 1) := by decide +kernel
theorem dX3_paidBy_6 : decode cX3_paidBy 6 = .ok (.iload_n 2, 1) := by decide +kernel
theorem dX3_paidBy_7 : decode cX3_paidBy 7 = .ok (.ifCond .ne 7, 3) := by decide +kernel
theorem dX3_paidBy_10 : decode cX3_paidBy 10 = .ok (.iconst 0, 1) := by decide +kernel
theorem dX3_paidBy_11 : decode cX3_paidBy 11 = .ok (.goto 16, 3) := by decide +kernel
theorem dX3_paidBy_14 : decode cX3_paidBy 14 = .ok (.aload_n 0, 1) := by decide +kernel
theorem dX3_paidBy_15 : decode cX3_paidBy 15 = .ok (.getfield 24, 3) := by decide +kernel
theorem dX3_paidBy_18 : decode cX3_paidBy 18 = .ok (.iload_n 1, 1) := by decide +kernel
theorem dX3_paidBy_19 : decode cX3_paidBy 19 = .ok (.iaload, 1) := by decide +kernel
theorem dX3_paidBy_20 : decode cX3_paidBy 20 = .ok (.aload_n 0, 1) := by decide +kernel
theorem dX3_paidBy_21 : decode cX3_paidBy 21 = .ok (.getfield 34, 3) := by decide +kernel
theorem dX3_paidBy_24 : decode cX3_paidBy 24 = .ok (.iload_n 2, 1) := by decide +kernel
theorem dX3_paidBy_25 : decode cX3_paidBy 25 = .ok (.isub, 1) := by decide +kernel
theorem dX3_paidBy_26 : decode cX3_paidBy 26 = .ok (.isub, 1) := by decide +kernel
theorem dX3_paidBy_27 : decode cX3_paidBy 27 = .ok (.ireturn, 1) := by decide +kernel
theorem dX3_nobodyOverpays_0 : decode cX3_nobodyOverpays 0 = .ok (.iconst 0, 1) := by decide +kernel
theorem dX3_nobodyOverpays_1 : decode cX3_nobodyOverpays 1 = .ok (.istore_n 1, 1) := by decide +kernel
theorem dX3_nobodyOverpays_2 : decode cX3_nobodyOverpays 2 = .ok (.iload_n 1, 1) := by decide +kernel
theorem dX3_nobodyOverpays_3 : decode cX3_nobodyOverpays 3 = .ok (.iconst 5, 1) := by decide +kernel
theorem dX3_nobodyOverpays_4 : decode cX3_nobodyOverpays 4 = .ok (.if_icmp .ge 24, 3) := by decide +kernel
theorem dX3_nobodyOverpays_7 : decode cX3_nobodyOverpays 7 = .ok (.aload_n 0, 1) := by decide +kernel
theorem dX3_nobodyOverpays_8 : decode cX3_nobodyOverpays 8 = .ok (.iload_n 1, 1) := by decide +kernel
theorem dX3_nobodyOverpays_9 : decode cX3_nobodyOverpays 9 = .ok (.invokevirtual 52, 3) := by decide +kernel
theorem dX3_nobodyOverpays_12 : decode cX3_nobodyOverpays 12 = .ok (.aload_n 0, 1) := by decide +kernel
theorem dX3_nobodyOverpays_13 : decode cX3_nobodyOverpays 13 = .ok (.iload_n 1, 1) := by decide +kernel
theorem dX3_nobodyOverpays_14 : decode cX3_nobodyOverpays 14 = .ok (.invokevirtual 48, 3) := by decide +kernel
theorem dX3_nobodyOverpays_17 : decode cX3_nobodyOverpays 17 = .ok (.if_icmp .le 5, 3) := by decide +kernel
theorem dX3_nobodyOverpays_20 : decode cX3_nobodyOverpays 20 = .ok (.iconst 0, 1) := by decide +kernel
theorem dX3_nobodyOverpays_21 : decode cX3_nobodyOverpays 21 = .ok (.ireturn, 1) := by decide +kernel
theorem dX3_nobodyOverpays_22 : decode cX3_nobodyOverpays 22 = .ok (.iinc 1 1, 3) := by decide +kernel
theorem dX3_nobodyOverpays_25 : decode cX3_nobodyOverpays 25 = .ok (.goto (-23), 3) := by decide +kernel
theorem dX3_nobodyOverpays_28 : decode cX3_nobodyOverpays 28 = .ok (.iconst 1, 1) := by decide +kernel
theorem dX3_nobodyOverpays_29 : decode cX3_nobodyOverpays 29 = .ok (.ireturn, 1) := by decide +kernel
theorem dX3_sellAll_0 : decode cX3_sellAll 0 = .ok (.iconst 0, 1) := by decide +kernel
theorem dX3_sellAll_1 : decode cX3_sellAll 1 = .ok (.istore_n 1, 1) := by decide +kernel
theorem dX3_sellAll_2 : decode cX3_sellAll 2 = .ok (.iconst 0, 1) := by decide +kernel
theorem dX3_sellAll_3 : decode cX3_sellAll 3 = .ok (.istore_n 2, 1) := by decide +kernel
theorem dX3_sellAll_4 : decode cX3_sellAll 4 = .ok (.iload_n 2, 1) := by decide +kernel
theorem dX3_sellAll_5 : decode cX3_sellAll 5 = .ok (.iconst 5, 1) := by decide +kernel
theorem dX3_sellAll_6 : decode cX3_sellAll 6 = .ok (.if_icmp .ge 17, 3) := by decide +kernel
theorem dX3_sellAll_9 : decode cX3_sellAll 9 = .ok (.iload_n 1, 1) := by decide +kernel
theorem dX3_sellAll_10 : decode cX3_sellAll 10 = .ok (.aload_n 0, 1) := by decide +kernel
theorem dX3_sellAll_11 : decode cX3_sellAll 11 = .ok (.iload_n 2, 1) := by decide +kernel
theorem dX3_sellAll_12 : decode cX3_sellAll 12 = .ok (.invokevirtual 52, 3) := by decide +kernel
theorem dX3_sellAll_15 : decode cX3_sellAll 15 = .ok (.iadd, 1) := by decide +kernel
theorem dX3_sellAll_16 : decode cX3_sellAll 16 = .ok (.istore_n 1, 1) := by decide +kernel
theorem dX3_sellAll_17 : decode cX3_sellAll 17 = .ok (.iinc 2 1, 3) := by decide +kernel
theorem dX3_sellAll_20 : decode cX3_sellAll 20 = .ok (.goto (-16), 3) := by decide +kernel
theorem dX3_sellAll_23 : decode cX3_sellAll 23 = .ok (.aload_n 0, 1) := by decide +kernel
theorem dX3_sellAll_24 : decode cX3_sellAll 24 = .ok (.dup, 1) := by decide +kernel
theorem dX3_sellAll_25 : decode cX3_sellAll 25 = .ok (.getfield 37, 3) := by decide +kernel
theorem dX3_sellAll_28 : decode cX3_sellAll 28 = .ok (.iload_n 1, 1) := by decide +kernel
theorem dX3_sellAll_29 : decode cX3_sellAll 29 = .ok (.iadd, 1) := by decide +kernel
theorem dX3_sellAll_30 : decode cX3_sellAll 30 = .ok (.putfield 37, 3) := by decide +kernel
theorem dX3_sellAll_33 : decode cX3_sellAll 33 = .ok (.aload_n 0, 1) := by decide +kernel
theorem dX3_sellAll_34 : decode cX3_sellAll 34 = .ok (.invokevirtual 55, 3) := by decide +kernel
theorem dX3_sellAll_37 : decode cX3_sellAll 37 = .ok (.iload_n 1, 1) := by decide +kernel
theorem dX3_sellAll_38 : decode cX3_sellAll 38 = .ok (.ireturn, 1) := by decide +kernel
theorem dX3_forgetBids_0 : decode cX3_forgetBids 0 = .ok (.iconst 0, 1) := by decide +kernel
theorem dX3_forgetBids_1 : decode cX3_forgetBids 1 = .ok (.istore_n 1, 1) := by decide +kernel
theorem dX3_forgetBids_2 : decode cX3_forgetBids 2 = .ok (.iload_n 1, 1) := by decide +kernel
theorem dX3_forgetBids_3 : decode cX3_forgetBids 3 = .ok (.iconst 5, 1) := by decide +kernel
theorem dX3_forgetBids_4 : decode cX3_forgetBids 4 = .ok (.if_icmp .ge 16, 3) := by decide +kernel
theorem dX3_forgetBids_7 : decode cX3_forgetBids 7 = .ok (.aload_n 0, 1) := by decide +kernel
theorem dX3_forgetBids_8 : decode cX3_forgetBids 8 = .ok (.getfield 24, 3) := by decide +kernel
theorem dX3_forgetBids_11 : decode cX3_forgetBids 11 = .ok (.iload_n 1, 1) := by decide +kernel
theorem dX3_forgetBids_12 : decode cX3_forgetBids 12 = .ok (.iconst 0, 1) := by decide +kernel
theorem dX3_forgetBids_13 : decode cX3_forgetBids 13 = .ok (.iastore, 1) := by decide +kernel
theorem dX3_forgetBids_14 : decode cX3_forgetBids 14 = .ok (.iinc 1 1, 3) := by decide +kernel
theorem dX3_forgetBids_17 : decode cX3_forgetBids 17 = .ok (.goto (-15), 3) := by decide +kernel
theorem dX3_forgetBids_20 : decode cX3_forgetBids 20 = .ok (.aload_n 0, 1) := by decide +kernel
theorem dX3_forgetBids_21 : decode cX3_forgetBids 21 = .ok (.iconst 0, 1) := by decide +kernel
theorem dX3_forgetBids_22 : decode cX3_forgetBids 22 = .ok (.putfield 27, 3) := by decide +kernel
theorem dX3_forgetBids_25 : decode cX3_forgetBids 25 = .ok (.aload_n 0, 1) := by decide +kernel
theorem dX3_forgetBids_26 : decode cX3_forgetBids 26 = .ok (.iconst 0, 1) := by decide +kernel
theorem dX3_forgetBids_27 : decode cX3_forgetBids 27 = .ok (.putfield 31, 3) := by decide +kernel
theorem dX3_forgetBids_30 : decode cX3_forgetBids 30 = .ok (.aload_n 0, 1) := by decide +kernel
theorem dX3_forgetBids_31 : decode cX3_forgetBids 31 = .ok (.iconst 0, 1) := by decide +kernel
theorem dX3_forgetBids_32 : decode cX3_forgetBids 32 = .ok (.putfield 34, 3) := by decide +kernel
theorem dX3_forgetBids_35 : decode cX3_forgetBids 35 = .ok (.return_, 1) := by decide +kernel
theorem dX4_init_0 : decode cX4_init 0 = .ok (.aload_n 0, 1) := by decide +kernel
theorem dX4_init_1 : decode cX4_init 1 = .ok (.invokespecial 3, 3) := by decide +kernel
theorem dX4_init_4 : decode cX4_init 4 = .ok (.aload_n 0, 1) := by decide +kernel
theorem dX4_init_5 : decode cX4_init 5 = .ok (.iconst 0, 1) := by decide +kernel
theorem dX4_init_6 : decode cX4_init 6 = .ok (.putfield 9, 3) := by decide +kernel
theorem dX4_init_9 : decode cX4_init 9 = .ok (.aload_n 0, 1) := by decide +kernel
theorem dX4_init_10 : decode cX4_init 10 = .ok (.iconst 0, 1) := by decide +kernel
theorem dX4_init_11 : decode cX4_init 11 = .ok (.putfield 15, 3) := by decide +kernel
theorem dX4_init_14 : decode cX4_init 14 = .ok (.aload_n 0, 1) := by decide +kernel
theorem dX4_init_15 : decode cX4_init 15 = .ok (.iconst 0, 1) := by decide +kernel
theorem dX4_init_16 : decode cX4_init 16 = .ok (.putfield 18, 3) := by decide +kernel
theorem dX4_init_19 : decode cX4_init 19 = .ok (.aload_n 0, 1) := by decide +kernel
theorem dX4_init_20 : decode cX4_init 20 = .ok (.iconst 0, 1) := by decide +kernel
theorem dX4_init_21 : decode cX4_init 21 = .ok (.putfield 21, 3) := by decide +kernel
theorem dX4_init_24 : decode cX4_init 24 = .ok (.aload_n 0, 1) := by decide +kernel
theorem dX4_init_25 : decode cX4_init 25 = .ok (.new 25, 3) := by decide +kernel
theorem dX4_init_28 : decode cX4_init 28 = .ok (.dup, 1) := by decide +kernel
theorem dX4_init_29 : decode cX4_init 29 = .ok (.invokespecial 27, 3) := by decide +kernel
theorem dX4_init_32 : decode cX4_init 32 = .ok (.putfield 28, 3) := by decide +kernel
theorem dX4_init_35 : decode cX4_init 35 = .ok (.aload_n 0, 1) := by decide +kernel
theorem dX4_init_36 : decode cX4_init 36 = .ok (.iconst 0, 1) := by decide +kernel
theorem dX4_init_37 : decode cX4_init 37 = .ok (.putfield 32, 3) := by decide +kernel
theorem dX4_init_40 : decode cX4_init 40 = .ok (.aload_n 0, 1) := by decide +kernel
theorem dX4_init_41 : decode cX4_init 41 = .ok (.iconst 0, 1) := by decide +kernel
theorem dX4_init_42 : decode cX4_init 42 = .ok (.putfield 35, 3) := by decide +kernel
theorem dX4_init_45 : decode cX4_init 45 = .ok (.aload_n 0, 1) := by decide +kernel
theorem dX4_init_46 : decode cX4_init 46 = .ok (.iconst 0, 1) := by decide +kernel
theorem dX4_init_47 : decode cX4_init 47 = .ok (.putfield 38, 3) := by decide +kernel
theorem dX4_init_50 : decode cX4_init 50 = .ok (.aload_n 0, 1) := by decide +kernel
theorem dX4_init_51 : decode cX4_init 51 = .ok (.iconst (-1), 1) := by decide +kernel
theorem dX4_init_52 : decode cX4_init 52 = .ok (.putfield 41, 3) := by decide +kernel
theorem dX4_init_55 : decode cX4_init 55 = .ok (.aload_n 0, 1) := by decide +kernel
theorem dX4_init_56 : decode cX4_init 56 = .ok (.iconst 0, 1) := by decide +kernel
theorem dX4_init_57 : decode cX4_init 57 = .ok (.putfield 44, 3) := by decide +kernel
theorem dX4_init_60 : decode cX4_init 60 = .ok (.aload_n 0, 1) := by decide +kernel
theorem dX4_init_61 : decode cX4_init 61 = .ok (.iconst 0, 1) := by decide +kernel
theorem dX4_init_62 : decode cX4_init 62 = .ok (.putfield 47, 3) := by decide +kernel
theorem dX4_init_65 : decode cX4_init 65 = .ok (.aload_n 0, 1) := by decide +kernel
theorem dX4_init_66 : decode cX4_init 66 = .ok (.iconst 0, 1) := by decide +kernel
theorem dX4_init_67 : decode cX4_init 67 = .ok (.putfield 50, 3) := by decide +kernel
theorem dX4_init_70 : decode cX4_init 70 = .ok (.aload_n 0, 1) := by decide +kernel
theorem dX4_init_71 : decode cX4_init 71 = .ok (.iconst 0, 1) := by decide +kernel
theorem dX4_init_72 : decode cX4_init 72 = .ok (.putfield 53, 3) := by decide +kernel
theorem dX4_init_75 : decode cX4_init 75 = .ok (.aload_n 0, 1) := by decide +kernel
theorem dX4_init_76 : decode cX4_init 76 = .ok (.iconst 0, 1) := by decide +kernel
theorem dX4_init_77 : decode cX4_init 77 = .ok (.putfield 56, 3) := by decide +kernel
theorem dX4_init_80 : decode cX4_init 80 = .ok (.aload_n 0, 1) := by decide +kernel
theorem dX4_init_81 : decode cX4_init 81 = .ok (.iconst 0, 1) := by decide +kernel
theorem dX4_init_82 : decode cX4_init 82 = .ok (.putfield 59, 3) := by decide +kernel
theorem dX4_init_85 : decode cX4_init 85 = .ok (.aload_n 0, 1) := by decide +kernel
theorem dX4_init_86 : decode cX4_init 86 = .ok (.new 62, 3) := by decide +kernel
theorem dX4_init_89 : decode cX4_init 89 = .ok (.dup, 1) := by decide +kernel
theorem dX4_init_90 : decode cX4_init 90 = .ok (.invokespecial 64, 3) := by decide +kernel
theorem dX4_init_93 : decode cX4_init 93 = .ok (.putfield 65, 3) := by decide +kernel
theorem dX4_init_96 : decode cX4_init 96 = .ok (.return_, 1) := by decide +kernel
theorem dX4_isSending_0 : decode cX4_isSending 0 = .ok (.aload_n 0, 1) := by decide +kernel
theorem dX4_isSending_1 : decode cX4_isSending 1 = .ok (.getfield 38, 3) := by decide +kernel
theorem dX4_isSending_4 : decode cX4_isSending 4 = .ok (.ifCond .le 7, 3) := by decide +kernel
theorem dX4_isSending_7 : decode cX4_isSending 7 = .ok (.iconst 1, 1) := by decide +kernel
theorem dX4_isSending_8 : decode cX4_isSending 8 = .ok (.goto 4, 3) := by decide +kernel
theorem dX4_isSending_11 : decode cX4_isSending 11 = .ok (.iconst 0, 1) := by decide +kernel
theorem dX4_isSending_12 : decode cX4_isSending 12 = .ok (.ireturn, 1) := by decide +kernel
theorem dX4_begin_0 : decode cX4_begin 0 = .ok (.aload_n 0, 1) := by decide +kernel
theorem dX4_begin_1 : decode cX4_begin 1 = .ok (.dup, 1) := by decide +kernel
theorem dX4_begin_2 : decode cX4_begin 2 = .ok (.getfield 50, 3) := by decide +kernel
theorem dX4_begin_5 : decode cX4_begin 5 = .ok (.iconst 1, 1) := by decide +kernel
theorem dX4_begin_6 : decode cX4_begin 6 = .ok (.iadd, 1) := by decide +kernel
theorem dX4_begin_7 : decode cX4_begin 7 = .ok (.putfield 50, 3) := by decide +kernel
theorem dX4_begin_10 : decode cX4_begin 10 = .ok (.aload_n 0, 1) := by decide +kernel
theorem dX4_begin_11 : decode cX4_begin 11 = .ok (.iload_n 1, 1) := by decide +kernel
theorem dX4_begin_12 : decode cX4_begin 12 = .ok (.putfield 38, 3) := by decide +kernel
theorem dX4_begin_15 : decode cX4_begin 15 = .ok (.aload_n 0, 1) := by decide +kernel
theorem dX4_begin_16 : decode cX4_begin 16 = .ok (.iload_n 2, 1) := by decide +kernel
theorem dX4_begin_17 : decode cX4_begin 17 = .ok (.putfield 41, 3) := by decide +kernel
theorem dX4_begin_20 : decode cX4_begin 20 = .ok (.aload_n 0, 1) := by decide +kernel
theorem dX4_begin_21 : decode cX4_begin 21 = .ok (.iconst 1, 1) := by decide +kernel
theorem dX4_begin_22 : decode cX4_begin 22 = .ok (.putfield 44, 3) := by decide +kernel
theorem dX4_begin_25 : decode cX4_begin 25 = .ok (.return_, 1) := by decide +kernel
theorem dX4_finishFirst_0 : decode cX4_finishFirst 0 = .ok (.aload_n 0, 1) := by decide +kernel
theorem dX4_finishFirst_1 : decode cX4_finishFirst 1 = .ok (.getfield 28, 3) := by decide +kernel
theorem dX4_finishFirst_4 : decode cX4_finishFirst 4 = .ok (.invokevirtual 69, 3) := by decide +kernel
theorem dX4_finishFirst_7 : decode cX4_finishFirst 7 = .ok (.aload_n 0, 1) := by decide +kernel
theorem dX4_finishFirst_8 : decode cX4_finishFirst 8 = .ok (.iconst 0, 1) := by decide +kernel
theorem dX4_finishFirst_9 : decode cX4_finishFirst 9 = .ok (.putfield 35, 3) := by decide +kernel
theorem dX4_finishFirst_12 : decode cX4_finishFirst 12 = .ok (.return_, 1) := by decide +kernel
theorem dX4_waitAgain_0 : decode cX4_waitAgain 0 = .ok (.aload_n 0, 1) := by decide +kernel
theorem dX4_waitAgain_1 : decode cX4_waitAgain 1 = .ok (.iload_n 1, 1) := by decide +kernel
theorem dX4_waitAgain_2 : decode cX4_waitAgain 2 = .ok (.putfield 32, 3) := by decide +kernel
theorem dX4_waitAgain_5 : decode cX4_waitAgain 5 = .ok (.aload_n 0, 1) := by decide +kernel
theorem dX4_waitAgain_6 : decode cX4_waitAgain 6 = .ok (.dup, 1) := by decide +kernel
theorem dX4_waitAgain_7 : decode cX4_waitAgain 7 = .ok (.getfield 53, 3) := by decide +kernel
theorem dX4_waitAgain_10 : decode cX4_waitAgain 10 = .ok (.iload_n 1, 1) := by decide +kernel
theorem dX4_waitAgain_11 : decode cX4_waitAgain 11 = .ok (.iadd, 1) := by decide +kernel
theorem dX4_waitAgain_12 : decode cX4_waitAgain 12 = .ok (.putfield 53, 3) := by decide +kernel
theorem dX4_waitAgain_15 : decode cX4_waitAgain 15 = .ok (.aload_n 0, 1) := by decide +kernel
theorem dX4_waitAgain_16 : decode cX4_waitAgain 16 = .ok (.dup, 1) := by decide +kernel
theorem dX4_waitAgain_17 : decode cX4_waitAgain 17 = .ok (.getfield 56, 3) := by decide +kernel
theorem dX4_waitAgain_20 : decode cX4_waitAgain 20 = .ok (.iconst 1, 1) := by decide +kernel
theorem dX4_waitAgain_21 : decode cX4_waitAgain 21 = .ok (.iadd, 1) := by decide +kernel
theorem dX4_waitAgain_22 : decode cX4_waitAgain 22 = .ok (.putfield 56, 3) := by decide +kernel
theorem dX4_waitAgain_25 : decode cX4_waitAgain 25 = .ok (.return_, 1) := by decide +kernel
theorem dX4_sign_0 : decode cX4_sign 0 = .ok (.aload_n 0, 1) := by decide +kernel
theorem dX4_sign_1 : decode cX4_sign 1 = .ok (.invokevirtual 72, 3) := by decide +kernel
theorem dX4_sign_4 : decode cX4_sign 4 = .ok (.ifCond .eq 6, 3) := by decide +kernel
theorem dX4_sign_7 : decode cX4_sign 7 = .ok (.bipush 84, 2) := by decide +kernel
theorem dX4_sign_9 : decode cX4_sign 9 = .ok (.ireturn, 1) := by decide +kernel
theorem dX4_sign_10 : decode cX4_sign 10 = .ok (.aload_n 0, 1) := by decide +kernel
theorem dX4_sign_11 : decode cX4_sign 11 = .ok (.getfield 32, 3) := by decide +kernel
theorem dX4_sign_14 : decode cX4_sign 14 = .ok (.ifCond .le 6, 3) := by decide +kernel
theorem dX4_sign_17 : decode cX4_sign 17 = .ok (.bipush 119, 2) := by decide +kernel
theorem dX4_sign_19 : decode cX4_sign 19 = .ok (.ireturn, 1) := by decide +kernel
theorem dX4_sign_20 : decode cX4_sign 20 = .ok (.aload_n 0, 1) := by decide +kernel
theorem dX4_sign_21 : decode cX4_sign 21 = .ok (.getfield 28, 3) := by decide +kernel
theorem dX4_sign_24 : decode cX4_sign 24 = .ok (.getfield 76, 3) := by decide +kernel
theorem dX4_sign_27 : decode cX4_sign 27 = .ok (.ifCond .le 8, 3) := by decide +kernel
theorem dX4_sign_30 : decode cX4_sign 30 = .ok (.bipush 113, 2) := by decide +kernel
theorem dX4_sign_32 : decode cX4_sign 32 = .ok (.goto 5, 3) := by decide +kernel
theorem dX4_sign_35 : decode cX4_sign 35 = .ok (.bipush 46, 2) := by decide +kernel
theorem dX4_sign_37 : decode cX4_sign 37 = .ok (.ireturn, 1) := by decide +kernel
theorem dX4_isInOrder_0 : decode cX4_isInOrder 0 = .ok (.aload_n 0, 1) := by decide +kernel
theorem dX4_isInOrder_1 : decode cX4_isInOrder 1 = .ok (.getfield 38, 3) := by decide +kernel
theorem dX4_isInOrder_4 : decode cX4_isInOrder 4 = .ok (.ifCond .eq 25, 3) := by decide +kernel
theorem dX4_isInOrder_7 : decode cX4_isInOrder 7 = .ok (.aload_n 0, 1) := by decide +kernel
theorem dX4_isInOrder_8 : decode cX4_isInOrder 8 = .ok (.getfield 28, 3) := by decide +kernel
theorem dX4_isInOrder_11 : decode cX4_isInOrder 11 = .ok (.getfield 76, 3) := by decide +kernel
theorem dX4_isInOrder_14 : decode cX4_isInOrder 14 = .ok (.ifCond .le 19, 3) := by decide +kernel
theorem dX4_isInOrder_17 : decode cX4_isInOrder 17 = .ok (.aload_n 0, 1) := by decide +kernel
theorem dX4_isInOrder_18 : decode cX4_isInOrder 18 = .ok (.getfield 38, 3) := by decide +kernel
theorem dX4_isInOrder_21 : decode cX4_isInOrder 21 = .ok (.iconst 1, 1) := by decide +kernel
theorem dX4_isInOrder_22 : decode cX4_isInOrder 22 = .ok (.iconst 3, 1) := by decide +kernel
theorem dX4_isInOrder_23 : decode cX4_isInOrder 23 = .ok (.invokestatic 79, 3) := by decide +kernel
theorem dX4_isInOrder_26 : decode cX4_isInOrder 26 = .ok (.ifCond .eq 7, 3) := by decide +kernel
theorem dX4_isInOrder_29 : decode cX4_isInOrder 29 = .ok (.iconst 1, 1) := by decide +kernel
theorem dX4_isInOrder_30 : decode cX4_isInOrder 30 = .ok (.goto 4, 3) := by decide +kernel
theorem dX4_isInOrder_33 : decode cX4_isInOrder 33 = .ok (.iconst 0, 1) := by decide +kernel
theorem dX4_isInOrder_34 : decode cX4_isInOrder 34 = .ok (.istore_n 1, 1) := by decide +kernel
theorem dX4_isInOrder_35 : decode cX4_isInOrder 35 = .ok (.iload_n 1, 1) := by decide +kernel
theorem dX4_isInOrder_36 : decode cX4_isInOrder 36 = .ok (.ifCond .eq 30, 3) := by decide +kernel
theorem dX4_isInOrder_39 : decode cX4_isInOrder 39 = .ok (.aload_n 0, 1) := by decide +kernel
theorem dX4_isInOrder_40 : decode cX4_isInOrder 40 = .ok (.getfield 28, 3) := by decide +kernel
theorem dX4_isInOrder_43 : decode cX4_isInOrder 43 = .ok (.getfield 76, 3) := by decide +kernel
theorem dX4_isInOrder_46 : decode cX4_isInOrder 46 = .ok (.iconst 4, 1) := by decide +kernel
theorem dX4_isInOrder_47 : decode cX4_isInOrder 47 = .ok (.if_icmp .gt 19, 3) := by decide +kernel
theorem dX4_isInOrder_50 : decode cX4_isInOrder 50 = .ok (.aload_n 0, 1) := by decide +kernel
theorem dX4_isInOrder_51 : decode cX4_isInOrder 51 = .ok (.getfield 35, 3) := by decide +kernel
theorem dX4_isInOrder_54 : decode cX4_isInOrder 54 = .ok (.iconst 0, 1) := by decide +kernel
theorem dX4_isInOrder_55 : decode cX4_isInOrder 55 = .ok (.iconst 4, 1) := by decide +kernel
theorem dX4_isInOrder_56 : decode cX4_isInOrder 56 = .ok (.invokestatic 79, 3) := by decide +kernel
theorem dX4_isInOrder_59 : decode cX4_isInOrder 59 = .ok (.ifCond .eq 7, 3) := by decide +kernel
theorem dX4_isInOrder_62 : decode cX4_isInOrder 62 = .ok (.iconst 1, 1) := by decide +kernel
theorem dX4_isInOrder_63 : decode cX4_isInOrder 63 = .ok (.goto 4, 3) := by decide +kernel
theorem dX4_isInOrder_66 : decode cX4_isInOrder 66 = .ok (.iconst 0, 1) := by decide +kernel
theorem dX4_isInOrder_67 : decode cX4_isInOrder 67 = .ok (.ireturn, 1) := by decide +kernel
theorem dX5_init_0 : decode cX5_init 0 = .ok (.aload_n 0, 1) := by decide +kernel
theorem dX5_init_1 : decode cX5_init 1 = .ok (.invokespecial 1, 3) := by decide +kernel
theorem dX5_init_4 : decode cX5_init 4 = .ok (.aload_n 0, 1) := by decide +kernel
theorem dX5_init_5 : decode cX5_init 5 = .ok (.bipush 8, 2) := by decide +kernel
theorem dX5_init_7 : decode cX5_init 7 = .ok (.newarray .long, 2) := by decide +kernel
theorem dX5_init_9 : decode cX5_init 9 = .ok (.putfield 9, 3) := by decide +kernel
theorem dX5_init_12 : decode cX5_init 12 = .ok (.return_, 1) := by decide +kernel
theorem dX5_has_0 : decode cX5_has 0 = .ok (.iload_n 1, 1) := by decide +kernel
theorem dX5_has_1 : decode cX5_has 1 = .ok (.ifCond .lt 35, 3) := by decide +kernel
theorem dX5_has_4 : decode cX5_has 4 = .ok (.iload_n 1, 1) := by decide +kernel
theorem dX5_has_5 : decode cX5_has 5 = .ok (.sipush 512, 3) := by decide +kernel
theorem dX5_has_8 : decode cX5_has 8 = .ok (.if_icmp .ge 28, 3) := by decide +kernel
theorem dX5_has_11 : decode cX5_has 11 = .ok (.aload_n 0, 1) := by decide +kernel
theorem dX5_has_12 : decode cX5_has 12 = .ok (.getfield 9, 3) := by decide +kernel
theorem dX5_has_15 : decode cX5_has 15 = .ok (.iload_n 1, 1) := by decide +kernel
theorem dX5_has_16 : decode cX5_has 16 = .ok (.bipush 64, 2) := by decide +kernel
theorem dX5_has_18 : decode cX5_has 18 = .ok (.idiv, 1) := by decide +kernel
theorem dX5_has_19 : decode cX5_has 19 = .ok (.laload, 1) := by decide +kernel
theorem dX5_has_20 : decode cX5_has 20 = .ok (.iload_n 1, 1) := by decide +kernel
theorem dX5_has_21 : decode cX5_has 21 = .ok (.bipush 64, 2) := by decide +kernel
theorem dX5_has_23 : decode cX5_has 23 = .ok (.irem, 1) := by decide +kernel
theorem dX5_has_24 : decode cX5_has 24 = .ok (.lshr, 1) := by decide +kernel
theorem dX5_has_25 : decode cX5_has 25 = .ok (.lconst 1, 1) := by decide +kernel
theorem dX5_has_26 : decode cX5_has 26 = .ok (.land, 1) := by decide +kernel
theorem dX5_has_27 : decode cX5_has 27 = .ok (.lconst 0, 1) := by decide +kernel
theorem dX5_has_28 : decode cX5_has 28 = .ok (.lcmp, 1) := by decide +kernel
theorem dX5_has_29 : decode cX5_has 29 = .ok (.ifCond .eq 7, 3) := by decide +kernel
theorem dX5_has_32 : decode cX5_has 32 = .ok (.iconst 1, 1) := by decide +kernel
theorem dX5_has_33 : decode cX5_has 33 = .ok (.goto 4, 3) := by decide +kernel
theorem dX5_has_36 : decode cX5_has 36 = .ok (.iconst 0, 1) := by decide +kernel
theorem dX5_has_37 : decode cX5_has 37 = .ok (.ireturn, 1) := by decide +kernel
theorem dX5_put_0 : decode cX5_put 0 = .ok (.iload_n 1, 1) := by decide +kernel
theorem dX5_put_1 : decode cX5_put 1 = .ok (.ifCond .lt 28, 3) := by decide +kernel
theorem dX5_put_4 : decode cX5_put 4 = .ok (.iload_n 1, 1) := by decide +kernel
theorem dX5_put_5 : decode cX5_put 5 = .ok (.sipush 512, 3) := by decide +kernel
theorem dX5_put_8 : decode cX5_put 8 = .ok (.if_icmp .ge 21, 3) := by decide +kernel
theorem dX5_put_11 : decode cX5_put 11 = .ok (.aload_n 0, 1) := by decide +kernel
theorem dX5_put_12 : decode cX5_put 12 = .ok (.getfield 9, 3) := by decide +kernel
theorem dX5_put_15 : decode cX5_put 15 = .ok (.iload_n 1, 1) := by decide +kernel
theorem dX5_put_16 : decode cX5_put 16 = .ok (.bipush 64, 2) := by decide +kernel
theorem dX5_put_18 : decode cX5_put 18 = .ok (.idiv, 1) := by decide +kernel
theorem dX5_put_19 : decode cX5_put 19 = .ok (.dup2, 1) := by decide +kernel
theorem dX5_put_20 : decode cX5_put 20 = .ok (.laload, 1) := by decide +kernel
theorem dX5_put_21 : decode cX5_put 21 = .ok (.lconst 1, 1) := by decide +kernel
theorem dX5_put_22 : decode cX5_put 22 = .ok (.iload_n 1, 1) := by decide +kernel
theorem dX5_put_23 : decode cX5_put 23 = .ok (.bipush 64, 2) := by decide +kernel
theorem dX5_put_25 : decode cX5_put 25 = .ok (.irem, 1) := by decide +kernel
theorem dX5_put_26 : decode cX5_put 26 = .ok (.lshl, 1) := by decide +kernel
theorem dX5_put_27 : decode cX5_put 27 = .ok (.lor, 1) := by decide +kernel
theorem dX5_put_28 : decode cX5_put 28 = .ok (.lastore, 1) := by decide +kernel
theorem dX5_put_29 : decode cX5_put 29 = .ok (.return_, 1) := by decide +kernel
theorem dX5_size_0 : decode cX5_size 0 = .ok (.iconst 0, 1) := by decide +kernel
theorem dX5_size_1 : decode cX5_size 1 = .ok (.istore_n 1, 1) := by decide +kernel
theorem dX5_size_2 : decode cX5_size 2 = .ok (.iconst 0, 1) := by decide +kernel
theorem dX5_size_3 : decode cX5_size 3 = .ok (.istore_n 2, 1) := by decide +kernel
theorem dX5_size_4 : decode cX5_size 4 = .ok (.iload_n 2, 1) := by decide +kernel
theorem dX5_size_5 : decode cX5_size 5 = .ok (.aload_n 0, 1) := by decide +kernel
theorem dX5_size_6 : decode cX5_size 6 = .ok (.getfield 9, 3) := by decide +kernel
theorem dX5_size_9 : decode cX5_size 9 = .ok (.arraylength, 1) := by decide +kernel
theorem dX5_size_10 : decode cX5_size 10 = .ok (.if_icmp .ge 21, 3) := by decide +kernel
theorem dX5_size_13 : decode cX5_size 13 = .ok (.iload_n 1, 1) := by decide +kernel
theorem dX5_size_14 : decode cX5_size 14 = .ok (.aload_n 0, 1) := by decide +kernel
theorem dX5_size_15 : decode cX5_size 15 = .ok (.getfield 9, 3) := by decide +kernel
theorem dX5_size_18 : decode cX5_size 18 = .ok (.iload_n 2, 1) := by decide +kernel
theorem dX5_size_19 : decode cX5_size 19 = .ok (.laload, 1) := by decide +kernel
theorem dX5_size_20 : decode cX5_size 20 = .ok (.invokestatic 13, 3) := by decide +kernel
theorem dX5_size_23 : decode cX5_size 23 = .ok (.iadd, 1) := by decide +kernel
theorem dX5_size_24 : decode cX5_size 24 = .ok (.istore_n 1, 1) := by decide +kernel
theorem dX5_size_25 : decode cX5_size 25 = .ok (.iinc 2 1, 3) := by decide +kernel
theorem dX5_size_28 : decode cX5_size 28 = .ok (.goto (-24), 3) := by decide +kernel
theorem dX5_size_31 : decode cX5_size 31 = .ok (.iload_n 1, 1) := by decide +kernel
theorem dX5_size_32 : decode cX5_size 32 = .ok (.ireturn, 1) := by decide +kernel
theorem dX6_init_0 : decode cX6_init 0 = .ok (.aload_n 0, 1) := by decide +kernel
theorem dX6_init_1 : decode cX6_init 1 = .ok (.invokespecial 3, 3) := by decide +kernel
theorem dX6_init_4 : decode cX6_init 4 = .ok (.aload_n 0, 1) := by decide +kernel
theorem dX6_init_5 : decode cX6_init 5 = .ok (.bipush 8, 2) := by decide +kernel
theorem dX6_init_7 : decode cX6_init 7 = .ok (.bipush 8, 2) := by decide +kernel
theorem dX6_init_9 : decode cX6_init 9 = .ok (.multianewarray 9 2, 4) := by decide +kernel
theorem dX6_init_13 : decode cX6_init 13 = .ok (.putfield 11, 3) := by decide +kernel
theorem dX6_init_16 : decode cX6_init 16 = .ok (.aload_n 0, 1) := by decide +kernel
theorem dX6_init_17 : decode cX6_init 17 = .ok (.bipush 8, 2) := by decide +kernel
theorem dX6_init_19 : decode cX6_init 19 = .ok (.bipush 8, 2) := by decide +kernel
theorem dX6_init_21 : decode cX6_init 21 = .ok (.multianewarray 9 2, 4) := by decide +kernel
theorem dX6_init_25 : decode cX6_init 25 = .ok (.putfield 16, 3) := by decide +kernel
theorem dX6_init_28 : decode cX6_init 28 = .ok (.aload_n 0, 1) := by decide +kernel
theorem dX6_init_29 : decode cX6_init 29 = .ok (.bipush 8, 2) := by decide +kernel
theorem dX6_init_31 : decode cX6_init 31 = .ok (.bipush 8, 2) := by decide +kernel
theorem dX6_init_33 : decode cX6_init 33 = .ok (.multianewarray 9 2, 4) := by decide +kernel
theorem dX6_init_37 : decode cX6_init 37 = .ok (.putfield 19, 3) := by decide +kernel
theorem dX6_init_40 : decode cX6_init 40 = .ok (.aload_n 0, 1) := by decide +kernel
theorem dX6_init_41 : decode cX6_init 41 = .ok (.bipush 8, 2) := by decide +kernel
theorem dX6_init_43 : decode cX6_init 43 = .ok (.bipush 8, 2) := by decide +kernel
theorem dX6_init_45 : decode cX6_init 45 = .ok (.multianewarray 9 2, 4) := by decide +kernel
theorem dX6_init_49 : decode cX6_init 49 = .ok (.putfield 22, 3) := by decide +kernel
theorem dX6_init_52 : decode cX6_init 52 = .ok (.aload_n 0, 1) := by decide +kernel
theorem dX6_init_53 : decode cX6_init 53 = .ok (.iconst 0, 1) := by decide +kernel
theorem dX6_init_54 : decode cX6_init 54 = .ok (.putfield 25, 3) := by decide +kernel
theorem dX6_init_57 : decode cX6_init 57 = .ok (.aload_n 0, 1) := by decide +kernel
theorem dX6_init_58 : decode cX6_init 58 = .ok (.aload_n 1, 1) := by decide +kernel
theorem dX6_init_59 : decode cX6_init 59 = .ok (.putfield 29, 3) := by decide +kernel
theorem dX6_init_62 : decode cX6_init 62 = .ok (.iconst 0, 1) := by decide +kernel
theorem dX6_init_63 : decode cX6_init 63 = .ok (.istore_n 2, 1) := by decide +kernel
theorem dX6_init_64 : decode cX6_init 64 = .ok (.iload_n 2, 1) := by decide +kernel
theorem dX6_init_65 : decode cX6_init 65 = .ok (.bipush 8, 2) := by decide +kernel
theorem dX6_init_67 : decode cX6_init 67 = .ok (.if_icmp .ge 59, 3) := by decide +kernel
theorem dX6_init_70 : decode cX6_init 70 = .ok (.iconst 0, 1) := by decide +kernel
theorem dX6_init_71 : decode cX6_init 71 = .ok (.istore_n 3, 1) := by decide +kernel
theorem dX6_init_72 : decode cX6_init 72 = .ok (.iload_n 3, 1) := by decide +kernel
theorem dX6_init_73 : decode cX6_init 73 = .ok (.bipush 8, 2) := by decide +kernel
theorem dX6_init_75 : decode cX6_init 75 = .ok (.if_icmp .ge 45, 3) := by decide +kernel
theorem dX6_init_78 : decode cX6_init 78 = .ok (.aload_n 0, 1) := by decide +kernel
theorem dX6_init_79 : decode cX6_init 79 = .ok (.getfield 11, 3) := by decide +kernel
theorem dX6_init_82 : decode cX6_init 82 = .ok (.iload_n 2, 1) := by decide +kernel
theorem dX6_init_83 : decode cX6_init 83 = .ok (.aaload, 1) := by decide +kernel
theorem dX6_init_84 : decode cX6_init 84 = .ok (.iload_n 3, 1) := by decide +kernel
theorem dX6_init_85 : decode cX6_init 85 = .ok (.iconst (-1), 1) := by decide +kernel
theorem dX6_init_86 : decode cX6_init 86 = .ok (.iastore, 1) := by decide +kernel
theorem dX6_init_87 : decode cX6_init 87 = .ok (.aload_n 0, 1) := by decide +kernel
theorem dX6_init_88 : decode cX6_init 88 = .ok (.getfield 16, 3) := by decide +kernel
theorem dX6_init_91 : decode cX6_init 91 = .ok (.iload_n 2, 1) := by decide +kernel
theorem dX6_init_92 : decode cX6_init 92 = .ok (.aaload, 1) := by decide +kernel
theorem dX6_init_93 : decode cX6_init 93 = .ok (.iload_n 3, 1) := by decide +kernel
theorem dX6_init_94 : decode cX6_init 94 = .ok (.iconst (-1), 1) := by decide +kernel
theorem dX6_init_95 : decode cX6_init 95 = .ok (.iastore, 1) := by decide +kernel
theorem dX6_init_96 : decode cX6_init 96 = .ok (.aload_n 0, 1) := by decide +kernel
theorem dX6_init_97 : decode cX6_init 97 = .ok (.getfield 19, 3) := by decide +kernel
theorem dX6_init_100 : decode cX6_init 100 = .ok (.iload_n 2, 1) := by decide +kernel
theorem dX6_init_101 : decode cX6_init 101 = .ok (.aaload, 1) := by decide +kernel
theorem dX6_init_102 : decode cX6_init 102 = .ok (.iload_n 3, 1) := by decide +kernel
theorem dX6_init_103 : decode cX6_init 103 = .ok (.iconst (-1), 1) := by decide +kernel
theorem dX6_init_104 : decode cX6_init 104 = .ok (.iastore, 1) := by decide +kernel
theorem dX6_init_105 : decode cX6_init 105 = .ok (.aload_n 0, 1) := by decide +kernel
theorem dX6_init_106 : decode cX6_init 106 = .ok (.getfield 22, 3) := by decide +kernel
theorem dX6_init_109 : decode cX6_init 109 = .ok (.iload_n 2, 1) := by decide +kernel
theorem dX6_init_110 : decode cX6_init 110 = .ok (.aaload, 1) := by decide +kernel
theorem dX6_init_111 : decode cX6_init 111 = .ok (.iload_n 3, 1) := by decide +kernel
theorem dX6_init_112 : decode cX6_init 112 = .ok (.iconst (-1), 1) := by decide +kernel
theorem dX6_init_113 : decode cX6_init 113 = .ok (.iastore, 1) := by decide +kernel
theorem dX6_init_114 : decode cX6_init 114 = .ok (.iinc 3 1, 3) := by decide +kernel
theorem dX6_init_117 : decode cX6_init 117 = .ok (.goto (-45), 3) := by decide +kernel
theorem dX6_init_120 : decode cX6_init 120 = .ok (.iinc 2 1, 3) := by decide +kernel
theorem dX6_init_123 : decode cX6_init 123 = .ok (.goto (-59), 3) := by decide +kernel
theorem dX6_init_126 : decode cX6_init 126 = .ok (.return_, 1) := by decide +kernel
theorem dX6_costOf_0 : decode cX6_costOf 0 = .ok (.aload_n 0, 1) := by decide +kernel
theorem dX6_costOf_1 : decode cX6_costOf 1 = .ok (.getfield 29, 3) := by decide +kernel
theorem dX6_costOf_4 : decode cX6_costOf 4 = .ok (.iload_n 1, 1) := by decide +kernel
theorem dX6_costOf_5 : decode cX6_costOf 5 = .ok (.invokevirtual 33, 3) := by decide +kernel
theorem dX6_costOf_8 : decode cX6_costOf 8 = .ok (.ifCond .eq 25, 3) := by decide +kernel
theorem dX6_costOf_11 : decode cX6_costOf 11 = .ok (.aload_n 0, 1) := by decide +kernel
theorem dX6_costOf_12 : decode cX6_costOf 12 = .ok (.getfield 29, 3) := by decide +kernel
theorem dX6_costOf_15 : decode cX6_costOf 15 = .ok (.iload_n 2, 1) := by decide +kernel
theorem dX6_costOf_16 : decode cX6_costOf 16 = .ok (.invokevirtual 33, 3) := by decide +kernel
theorem dX6_costOf_19 : decode cX6_costOf 19 = .ok (.ifCond .eq 14, 3) := by decide +kernel
theorem dX6_costOf_22 : decode cX6_costOf 22 = .ok (.aload_n 0, 1) := by decide +kernel
theorem dX6_costOf_23 : decode cX6_costOf 23 = .ok (.getfield 11, 3) := by decide +kernel
theorem dX6_costOf_26 : decode cX6_costOf 26 = .ok (.iload_n 1, 1) := by decide +kernel
theorem dX6_costOf_27 : decode cX6_costOf 27 = .ok (.aaload, 1) := by decide +kernel
theorem dX6_costOf_28 : decode cX6_costOf 28 = .ok (.iload_n 2, 1) := by decide +kernel
theorem dX6_costOf_29 : decode cX6_costOf 29 = .ok (.iaload, 1) := by decide +kernel
theorem dX6_costOf_30 : decode cX6_costOf 30 = .ok (.goto 4, 3) := by decide +kernel
theorem dX6_costOf_33 : decode cX6_costOf 33 = .ok (.iconst (-1), 1) := by decide +kernel
theorem dX6_costOf_34 : decode cX6_costOf 34 = .ok (.ireturn, 1) := by decide +kernel
theorem dX6_nextOf_0 : decode cX6_nextOf 0 = .ok (.aload_n 0, 1) := by decide +kernel
theorem dX6_nextOf_1 : decode cX6_nextOf 1 = .ok (.getfield 29, 3) := by decide +kernel
theorem dX6_nextOf_4 : decode cX6_nextOf 4 = .ok (.iload_n 1, 1) := by decide +kernel
theorem dX6_nextOf_5 : decode cX6_nextOf 5 = .ok (.invokevirtual 33, 3) := by decide +kernel
theorem dX6_nextOf_8 : decode cX6_nextOf 8 = .ok (.ifCond .eq 25, 3) := by decide +kernel
theorem dX6_nextOf_11 : decode cX6_nextOf 11 = .ok (.aload_n 0, 1) := by decide +kernel
theorem dX6_nextOf_12 : decode cX6_nextOf 12 = .ok (.getfield 29, 3) := by decide +kernel
theorem dX6_nextOf_15 : decode cX6_nextOf 15 = .ok (.iload_n 2, 1) := by decide +kernel
theorem dX6_nextOf_16 : decode cX6_nextOf 16 = .ok (.invokevirtual 33, 3) := by decide +kernel
theorem dX6_nextOf_19 : decode cX6_nextOf 19 = .ok (.ifCond .eq 14, 3) := by decide +kernel
theorem dX6_nextOf_22 : decode cX6_nextOf 22 = .ok (.aload_n 0, 1) := by decide +kernel
theorem dX6_nextOf_23 : decode cX6_nextOf 23 = .ok (.getfield 16, 3) := by decide +kernel
theorem dX6_nextOf_26 : decode cX6_nextOf 26 = .ok (.iload_n 1, 1) := by decide +kernel
theorem dX6_nextOf_27 : decode cX6_nextOf 27 = .ok (.aaload, 1) := by decide +kernel
theorem dX6_nextOf_28 : decode cX6_nextOf 28 = .ok (.iload_n 2, 1) := by decide +kernel
theorem dX6_nextOf_29 : decode cX6_nextOf 29 = .ok (.iaload, 1) := by decide +kernel
theorem dX6_nextOf_30 : decode cX6_nextOf 30 = .ok (.goto 4, 3) := by decide +kernel
theorem dX6_nextOf_33 : decode cX6_nextOf 33 = .ok (.iconst (-1), 1) := by decide +kernel
theorem dX6_nextOf_34 : decode cX6_nextOf 34 = .ok (.ireturn, 1) := by decide +kernel
theorem dX6_renew_0 : decode cX6_renew 0 = .ok (.iconst 0, 1) := by decide +kernel
theorem dX6_renew_1 : decode cX6_renew 1 = .ok (.istore_n 1, 1) := by decide +kernel
theorem dX6_renew_2 : decode cX6_renew 2 = .ok (.iload_n 1, 1) := by decide +kernel
theorem dX6_renew_3 : decode cX6_renew 3 = .ok (.aload_n 0, 1) := by decide +kernel
theorem dX6_renew_4 : decode cX6_renew 4 = .ok (.getfield 29, 3) := by decide +kernel
theorem dX6_renew_7 : decode cX6_renew 7 = .ok (.getfield 39, 3) := by decide +kernel
theorem dX6_renew_10 : decode cX6_renew 10 = .ok (.if_icmp .ge 39, 3) := by decide +kernel
theorem dX6_renew_13 : decode cX6_renew 13 = .ok (.iconst 0, 1) := by decide +kernel
theorem dX6_renew_14 : decode cX6_renew 14 = .ok (.istore_n 2, 1) := by decide +kernel
theorem dX6_renew_15 : decode cX6_renew 15 = .ok (.iload_n 2, 1) := by decide +kernel
theorem dX6_renew_16 : decode cX6_renew 16 = .ok (.aload_n 0, 1) := by decide +kernel
theorem dX6_renew_17 : decode cX6_renew 17 = .ok (.getfield 29, 3) := by decide +kernel
theorem dX6_renew_20 : decode cX6_renew 20 = .ok (.getfield 39, 3) := by decide +kernel
theorem dX6_renew_23 : decode cX6_renew 23 = .ok (.if_icmp .ge 20, 3) := by decide +kernel
theorem dX6_renew_26 : decode cX6_renew 26 = .ok (.iload_n 1, 1) := by decide +kernel
theorem dX6_renew_27 : decode cX6_renew 27 = .ok (.iload_n 2, 1) := by decide +kernel
theorem dX6_renew_28 : decode cX6_renew 28 = .ok (.if_icmp .eq 9, 3) := by decide +kernel
theorem dX6_renew_31 : decode cX6_renew 31 = .ok (.aload_n 0, 1) := by decide +kernel
theorem dX6_renew_32 : decode cX6_renew 32 = .ok (.iload_n 1, 1) := by decide +kernel
theorem dX6_renew_33 : decode cX6_renew 33 = .ok (.iload_n 2, 1) := by decide +kernel
theorem dX6_renew_34 : decode cX6_renew 34 = .ok (.invokevirtual 42, 3) := by decide +kernel
theorem dX6_renew_37 : decode cX6_renew 37 = .ok (.iinc 2 1, 3) := by decide +kernel
theorem dX6_renew_40 : decode cX6_renew 40 = .ok (.goto (-25), 3) := by decide +kernel
theorem dX6_renew_43 : decode cX6_renew 43 = .ok (.iinc 1 1, 3) := by decide +kernel
theorem dX6_renew_46 : decode cX6_renew 46 = .ok (.goto (-44), 3) := by decide +kernel
theorem dX6_renew_49 : decode cX6_renew 49 = .ok (.aload_n 0, 1) := by decide +kernel
theorem dX6_renew_50 : decode cX6_renew 50 = .ok (.getfield 11, 3) := by decide +kernel
theorem dX6_renew_53 : decode cX6_renew 53 = .ok (.astore_n 1, 1) := by decide +kernel
theorem dX6_renew_54 : decode cX6_renew 54 = .ok (.aload_n 0, 1) := by decide +kernel
theorem dX6_renew_55 : decode cX6_renew 55 = .ok (.getfield 16, 3) := by decide +kernel
theorem dX6_renew_58 : decode cX6_renew 58 = .ok (.astore_n 2, 1) := by decide +kernel
theorem dX6_renew_59 : decode cX6_renew 59 = .ok (.aload_n 0, 1) := by decide +kernel
theorem dX6_renew_60 : decode cX6_renew 60 = .ok (.aload_n 0, 1) := by decide +kernel
theorem dX6_renew_61 : decode cX6_renew 61 = .ok (.getfield 19, 3) := by decide +kernel
theorem dX6_renew_64 : decode cX6_renew 64 = .ok (.putfield 11, 3) := by decide +kernel
theorem dX6_renew_67 : decode cX6_renew 67 = .ok (.aload_n 0, 1) := by decide +kernel
theorem dX6_renew_68 : decode cX6_renew 68 = .ok (.aload_n 0, 1) := by decide +kernel
theorem dX6_renew_69 : decode cX6_renew 69 = .ok (.getfield 22, 3) := by decide +kernel
theorem dX6_renew_72 : decode cX6_renew 72 = .ok (.putfield 16, 3) := by decide +kernel
theorem dX6_renew_75 : decode cX6_renew 75 = .ok (.aload_n 0, 1) := by decide +kernel
theorem dX6_renew_76 : decode cX6_renew 76 = .ok (.aload_n 1, 1) := by decide +kernel
theorem dX6_renew_77 : decode cX6_renew 77 = .ok (.putfield 19, 3) := by decide +kernel
theorem dX6_renew_80 : decode cX6_renew 80 = .ok (.aload_n 0, 1) := by decide +kernel
theorem dX6_renew_81 : decode cX6_renew 81 = .ok (.aload_n 2, 1) := by decide +kernel
theorem dX6_renew_82 : decode cX6_renew 82 = .ok (.putfield 22, 3) := by decide +kernel
theorem dX6_renew_85 : decode cX6_renew 85 = .ok (.aload_n 0, 1) := by decide +kernel
theorem dX6_renew_86 : decode cX6_renew 86 = .ok (.dup, 1) := by decide +kernel
theorem dX6_renew_87 : decode cX6_renew 87 = .ok (.getfield 25, 3) := by decide +kernel
theorem dX6_renew_90 : decode cX6_renew 90 = .ok (.iconst 1, 1) := by decide +kernel
theorem dX6_renew_91 : decode cX6_renew 91 = .ok (.iadd, 1) := by decide +kernel
theorem dX6_renew_92 : decode cX6_renew 92 = .ok (.putfield 25, 3) := by decide +kernel
theorem dX6_renew_95 : decode cX6_renew 95 = .ok (.return_, 1) := by decide +kernel
theorem dX6_renewPair_0 : decode cX6_renewPair 0 = .ok (.iconst (-1), 1) := by decide +kernel
theorem dX6_renewPair_1 : decode cX6_renewPair 1 = .ok (.istore_n 3, 1) := by decide +kernel
theorem dX6_renewPair_2 : decode cX6_renewPair 2 = .ok (.iconst (-1), 1) := by decide +kernel
theorem dX6_renewPair_3 : decode cX6_renewPair 3 = .ok (.istore 4, 2) := by decide +kernel
theorem dX6_renewPair_5 : decode cX6_renewPair 5 = .ok (.aload_n 0, 1) := by decide +kernel
theorem dX6_renewPair_6 : decode cX6_renewPair 6 = .ok (.getfield 29, 3) := by decide +kernel
theorem dX6_renewPair_9 : decode cX6_renewPair 9 = .ok (.iload_n 1, 1) := by decide +kernel
theorem dX6_renewPair_10 : decode cX6_renewPair 10 = .ok (.iload_n 2, 1) := by decide +kernel
theorem dX6_renewPair_11 : decode cX6_renewPair 11 = .ok (.invokevirtual 46, 3) := by decide +kernel
theorem dX6_renewPair_14 : decode cX6_renewPair 14 = .ok (.ifCond .eq 11, 3) := by decide +kernel
theorem dX6_renewPair_17 : decode cX6_renewPair 17 = .ok (.iload_n 2, 1) := by decide +kernel
theorem dX6_renewPair_18 : decode cX6_renewPair 18 = .ok (.istore_n 3, 1) := by decide +kernel
theorem dX6_renewPair_19 : decode cX6_renewPair 19 = .ok (.iconst 1, 1) := by decide +kernel
theorem dX6_renewPair_20 : decode cX6_renewPair 20 = .ok (.istore 4, 2) := by decide +kernel
theorem dX6_renewPair_22 : decode cX6_renewPair 22 = .ok (.goto 49, 3) := by decide +kernel
theorem dX6_renewPair_25 : decode cX6_renewPair 25 = .ok (.aload_n 0, 1) := by decide +kernel
theorem dX6_renewPair_26 : decode cX6_renewPair 26 = .ok (.iload_n 1, 1) := by decide +kernel
theorem dX6_renewPair_27 : decode cX6_renewPair 27 = .ok (.iload_n 2, 1) := by decide +kernel
theorem dX6_renewPair_28 : decode cX6_renewPair 28 = .ok (.invokevirtual 50, 3) := by decide +kernel
theorem dX6_renewPair_31 : decode cX6_renewPair 31 = .ok (.istore 5, 2) := by decide +kernel
theorem dX6_renewPair_33 : decode cX6_renewPair 33 = .ok (.iload 5, 2) := by decide +kernel
theorem dX6_renewPair_35 : decode cX6_renewPair 35 = .ok (.iconst (-1), 1) := by decide +kernel
theorem dX6_renewPair_36 : decode cX6_renewPair 36 = .ok (.if_icmp .eq 35, 3) := by decide +kernel
theorem dX6_renewPair_39 : decode cX6_renewPair 39 = .ok (.aload_n 0, 1) := by decide +kernel
theorem dX6_renewPair_40 : decode cX6_renewPair 40 = .ok (.getfield 11, 3) := by decide +kernel
theorem dX6_renewPair_43 : decode cX6_renewPair 43 = .ok (.iload 5, 2) := by decide +kernel
theorem dX6_renewPair_45 : decode cX6_renewPair 45 = .ok (.aaload, 1) := by decide +kernel
theorem dX6_renewPair_46 : decode cX6_renewPair 46 = .ok (.iload_n 2, 1) := by decide +kernel
theorem dX6_renewPair_47 : decode cX6_renewPair 47 = .ok (.iaload, 1) := by decide +kernel
theorem dX6_renewPair_48 : decode cX6_renewPair 48 = .ok (.iconst 1, 1) := by decide +kernel
theorem dX6_renewPair_49 : decode cX6_renewPair 49 = .ok (.iadd, 1) := by decide +kernel
theorem dX6_renewPair_50 : decode cX6_renewPair 50 = .ok (.bipush 8, 2) := by decide +kernel
theorem dX6_renewPair_52 : decode cX6_renewPair 52 = .ok (.if_icmp .gt 19, 3) := by decide +kernel
theorem dX6_renewPair_55 : decode cX6_renewPair 55 = .ok (.iload 5, 2) := by decide +kernel
theorem dX6_renewPair_57 : decode cX6_renewPair 57 = .ok (.istore_n 3, 1) := by decide +kernel
theorem dX6_renewPair_58 : decode cX6_renewPair 58 = .ok (.aload_n 0, 1) := by decide +kernel
theorem dX6_renewPair_59 : decode cX6_renewPair 59 = .ok (.getfield 11, 3) := by decide +kernel
theorem dX6_renewPair_62 : decode cX6_renewPair 62 = .ok (.iload 5, 2) := by decide +kernel
theorem dX6_renewPair_64 : decode cX6_renewPair 64 = .ok (.aaload, 1) := by decide +kernel
theorem dX6_renewPair_65 : decode cX6_renewPair 65 = .ok (.iload_n 2, 1) := by decide +kernel
theorem dX6_renewPair_66 : decode cX6_renewPair 66 = .ok (.iaload, 1) := by decide +kernel
theorem dX6_renewPair_67 : decode cX6_renewPair 67 = .ok (.iconst 1, 1) := by decide +kernel
theorem dX6_renewPair_68 : decode cX6_renewPair 68 = .ok (.iadd, 1) := by decide +kernel
theorem dX6_renewPair_69 : decode cX6_renewPair 69 = .ok (.istore 4, 2) := by decide +kernel
theorem dX6_renewPair_71 : decode cX6_renewPair 71 = .ok (.aload_n 0, 1) := by decide +kernel
theorem dX6_renewPair_72 : decode cX6_renewPair 72 = .ok (.getfield 22, 3) := by decide +kernel
theorem dX6_renewPair_75 : decode cX6_renewPair 75 = .ok (.iload_n 1, 1) := by decide +kernel
theorem dX6_renewPair_76 : decode cX6_renewPair 76 = .ok (.aaload, 1) := by decide +kernel
theorem dX6_renewPair_77 : decode cX6_renewPair 77 = .ok (.iload_n 2, 1) := by decide +kernel
theorem dX6_renewPair_78 : decode cX6_renewPair 78 = .ok (.iload_n 3, 1) := by decide +kernel
theorem dX6_renewPair_79 : decode cX6_renewPair 79 = .ok (.iastore, 1) := by decide +kernel
theorem dX6_renewPair_80 : decode cX6_renewPair 80 = .ok (.aload_n 0, 1) := by decide +kernel
theorem dX6_renewPair_81 : decode cX6_renewPair 81 = .ok (.getfield 19, 3) := by decide +kernel
theorem dX6_renewPair_84 : decode cX6_renewPair 84 = .ok (.iload_n 1, 1) := by decide +kernel
theorem dX6_renewPair_85 : decode cX6_renewPair 85 = .ok (.aaload, 1) := by decide +kernel
theorem dX6_renewPair_86 : decode cX6_renewPair 86 = .ok (.iload_n 2, 1) := by decide +kernel
theorem dX6_renewPair_87 : decode cX6_renewPair 87 = .ok (.iload 4, 2) := by decide +kernel
theorem dX6_renewPair_89 : decode cX6_renewPair 89 = .ok (.iastore, 1) := by decide +kernel
theorem dX6_renewPair_90 : decode cX6_renewPair 90 = .ok (.return_, 1) := by decide +kernel
theorem dX6_cheapestNeighbour_0 : decode cX6_cheapestNeighbour 0 = .ok (.iconst (-1), 1) := by decide +kernel
theorem dX6_cheapestNeighbour_1 : decode cX6_cheapestNeighbour 1 = .ok (.istore_n 3, 1) := by decide +kernel
theorem dX6_cheapestNeighbour_2 : decode cX6_cheapestNeighbour 2 = .ok (.iconst 0, 1) := by decide +kernel
theorem dX6_cheapestNeighbour_3 : decode cX6_cheapestNeighbour 3 = .ok (.istore 4, 2) := by decide +kernel
theorem dX6_cheapestNeighbour_5 : decode cX6_cheapestNeighbour 5 = .ok (.iload 4, 2) := by decide +kernel
theorem dX6_cheapestNeighbour_7 : decode cX6_cheapestNeighbour 7 = .ok (.aload_n 0, 1) := by decide +kernel
theorem dX6_cheapestNeighbour_8 : decode cX6_cheapestNeighbour 8 = .ok (.getfield 29, 3) := by decide +kernel
theorem dX6_cheapestNeighbour_11 : decode cX6_cheapestNeighbour 11 = .ok (.getfield 39, 3) := by decide +kernel
theorem dX6_cheapestNeighbour_14 : decode cX6_cheapestNeighbour 14 = .ok (.if_icmp .ge 88, 3) := by decide +kernel
theorem dX6_cheapestNeighbour_17 : decode cX6_cheapestNeighbour 17 = .ok (.aload_n 0, 1) := by decide +kernel
theorem dX6_cheapestNeighbour_18 : decode cX6_cheapestNeighbour 18 = .ok (.getfield 16, 3) := by decide +kernel
theorem dX6_cheapestNeighbour_21 : decode cX6_cheapestNeighbour 21 = .ok (.iload 4, 2) := by decide +kernel
theorem dX6_cheapestNeighbour_23 : decode cX6_cheapestNeighbour 23 = .ok (.aaload, 1) := by decide +kernel
theorem dX6_cheapestNeighbour_24 : decode cX6_cheapestNeighbour 24 = .ok (.iload_n 2, 1) := by decide +kernel
theorem dX6_cheapestNeighbour_25 : decode cX6_cheapestNeighbour 25 = .ok (.iaload, 1) := by decide +kernel
theorem dX6_cheapestNeighbour_26 : decode cX6_cheapestNeighbour 26 = .ok (.iconst (-1), 1) := by decide +kernel
theorem dX6_cheapestNeighbour_27 : decode cX6_cheapestNeighbour 27 = .ok (.if_icmp .eq 33, 3) := by decide +kernel
theorem dX6_cheapestNeighbour_30 : decode cX6_cheapestNeighbour 30 = .ok (.aload_n 0, 1) := by decide +kernel
theorem dX6_cheapestNeighbour_31 : decode cX6_cheapestNeighbour 31 = .ok (.getfield 16, 3) := by decide +kernel
theorem dX6_cheapestNeighbour_34 : decode cX6_cheapestNeighbour 34 = .ok (.iload 4, 2) := by decide +kernel
theorem dX6_cheapestNeighbour_36 : decode cX6_cheapestNeighbour 36 = .ok (.aaload, 1) := by decide +kernel
theorem dX6_cheapestNeighbour_37 : decode cX6_cheapestNeighbour 37 = .ok (.iload_n 2, 1) := by decide +kernel
theorem dX6_cheapestNeighbour_38 : decode cX6_cheapestNeighbour 38 = .ok (.iaload, 1) := by decide +kernel
theorem dX6_cheapestNeighbour_39 : decode cX6_cheapestNeighbour 39 = .ok (.iload_n 1, 1) := by decide +kernel
theorem dX6_cheapestNeighbour_40 : decode cX6_cheapestNeighbour 40 = .ok (.if_icmp .eq 20, 3) := by decide +kernel
theorem dX6_cheapestNeighbour_43 : decode cX6_cheapestNeighbour 43 = .ok (.aload_n 0, 1) := by decide +kernel
theorem dX6_cheapestNeighbour_44 : decode cX6_cheapestNeighbour 44 = .ok (.getfield 29, 3) := by decide +kernel
theorem dX6_cheapestNeighbour_47 : decode cX6_cheapestNeighbour 47 = .ok (.iload 4, 2) := by decide +kernel
theorem dX6_cheapestNeighbour_49 : decode cX6_cheapestNeighbour 49 = .ok (.iload_n 1, 1) := by decide +kernel
theorem dX6_cheapestNeighbour_50 : decode cX6_cheapestNeighbour 50 = .ok (.invokevirtual 46, 3) := by decide +kernel
theorem dX6_cheapestNeighbour_53 : decode cX6_cheapestNeighbour 53 = .ok (.ifCond .eq 7, 3) := by decide +kernel
theorem dX6_cheapestNeighbour_56 : decode cX6_cheapestNeighbour 56 = .ok (.iconst 1, 1) := by decide +kernel
theorem dX6_cheapestNeighbour_57 : decode cX6_cheapestNeighbour 57 = .ok (.goto 4, 3) := by decide +kernel
theorem dX6_cheapestNeighbour_60 : decode cX6_cheapestNeighbour 60 = .ok (.iconst 0, 1) := by decide +kernel
theorem dX6_cheapestNeighbour_61 : decode cX6_cheapestNeighbour 61 = .ok (.istore 5, 2) := by decide +kernel
theorem dX6_cheapestNeighbour_63 : decode cX6_cheapestNeighbour 63 = .ok (.iload 5, 2) := by decide +kernel
theorem dX6_cheapestNeighbour_65 : decode cX6_cheapestNeighbour 65 = .ok (.ifCond .eq 31, 3) := by decide +kernel
theorem dX6_cheapestNeighbour_68 : decode cX6_cheapestNeighbour 68 = .ok (.iload_n 3, 1) := by decide +kernel
theorem dX6_cheapestNeighbour_69 : decode cX6_cheapestNeighbour 69 = .ok (.iconst (-1), 1) := by decide +kernel
theorem dX6_cheapestNeighbour_70 : decode cX6_cheapestNeighbour 70 = .ok (.if_icmp .eq 23, 3) := by decide +kernel
theorem dX6_cheapestNeighbour_73 : decode cX6_cheapestNeighbour 73 = .ok (.aload_n 0, 1) := by decide +kernel
theorem dX6_cheapestNeighbour_74 : decode cX6_cheapestNeighbour 74 = .ok (.getfield 11, 3) := by decide +kernel
theorem dX6_cheapestNeighbour_77 : decode cX6_cheapestNeighbour 77 = .ok (.iload 4, 2) := by decide +kernel
theorem dX6_cheapestNeighbour_79 : decode cX6_cheapestNeighbour 79 = .ok (.aaload, 1) := by decide +kernel
theorem dX6_cheapestNeighbour_80 : decode cX6_cheapestNeighbour 80 = .ok (.iload_n 2, 1) := by decide +kernel
theorem dX6_cheapestNeighbour_81 : decode cX6_cheapestNeighbour 81 = .ok (.iaload, 1) := by decide +kernel
theorem dX6_cheapestNeighbour_82 : decode cX6_cheapestNeighbour 82 = .ok (.aload_n 0, 1) := by decide +kernel
theorem dX6_cheapestNeighbour_83 : decode cX6_cheapestNeighbour 83 = .ok (.getfield 11, 3) := by decide +kernel
theorem dX6_cheapestNeighbour_86 : decode cX6_cheapestNeighbour 86 = .ok (.iload_n 3, 1) := by decide +kernel
theorem dX6_cheapestNeighbour_87 : decode cX6_cheapestNeighbour 87 = .ok (.aaload, 1) := by decide +kernel
theorem dX6_cheapestNeighbour_88 : decode cX6_cheapestNeighbour 88 = .ok (.iload_n 2, 1) := by decide +kernel
theorem dX6_cheapestNeighbour_89 : decode cX6_cheapestNeighbour 89 = .ok (.iaload, 1) := by decide +kernel
theorem dX6_cheapestNeighbour_90 : decode cX6_cheapestNeighbour 90 = .ok (.if_icmp .ge 6, 3) := by decide +kernel
theorem dX6_cheapestNeighbour_93 : decode cX6_cheapestNeighbour 93 = .ok (.iload 4, 2) := by decide +kernel
theorem dX6_cheapestNeighbour_95 : decode cX6_cheapestNeighbour 95 = .ok (.istore_n 3, 1) := by decide +kernel
theorem dX6_cheapestNeighbour_96 : decode cX6_cheapestNeighbour 96 = .ok (.iinc 4 1, 3) := by decide +kernel
theorem dX6_cheapestNeighbour_99 : decode cX6_cheapestNeighbour 99 = .ok (.goto (-94), 3) := by decide +kernel
theorem dX6_cheapestNeighbour_102 : decode cX6_cheapestNeighbour 102 = .ok (.iload_n 3, 1) := by decide +kernel
theorem dX6_cheapestNeighbour_103 : decode cX6_cheapestNeighbour 103 = .ok (.ireturn, 1) := by decide +kernel
theorem dX6_wayLength_0 : decode cX6_wayLength 0 = .ok (.aload_n 0, 1) := by decide +kernel
theorem dX6_wayLength_1 : decode cX6_wayLength 1 = .ok (.iload_n 1, 1) := by decide +kernel
theorem dX6_wayLength_2 : decode cX6_wayLength 2 = .ok (.iload_n 2, 1) := by decide +kernel
theorem dX6_wayLength_3 : decode cX6_wayLength 3 = .ok (.invokevirtual 54, 3) := by decide +kernel
theorem dX6_wayLength_6 : decode cX6_wayLength 6 = .ok (.istore_n 3, 1) := by decide +kernel
theorem dX6_wayLength_7 : decode cX6_wayLength 7 = .ok (.iload_n 3, 1) := by decide +kernel
theorem dX6_wayLength_8 : decode cX6_wayLength 8 = .ok (.bipush (-2), 2) := by decide +kernel
theorem dX6_wayLength_10 : decode cX6_wayLength 10 = .ok (.if_icmp .ne 7, 3) := by decide +kernel
theorem dX6_wayLength_13 : decode cX6_wayLength 13 = .ok (.iconst (-1), 1) := by decide +kernel
theorem dX6_wayLength_14 : decode cX6_wayLength 14 = .ok (.goto 4, 3) := by decide +kernel
theorem dX6_wayLength_17 : decode cX6_wayLength 17 = .ok (.iload_n 3, 1) := by decide +kernel
theorem dX6_wayLength_18 : decode cX6_wayLength 18 = .ok (.ireturn, 1) := by decide +kernel
theorem dX6_hasCircle_0 : decode cX6_hasCircle 0 = .ok (.aload_n 0, 1) := by decide +kernel
theorem dX6_hasCircle_1 : decode cX6_hasCircle 1 = .ok (.iload_n 1, 1) := by decide +kernel
theorem dX6_hasCircle_2 : decode cX6_hasCircle 2 = .ok (.iload_n 2, 1) := by decide +kernel
theorem dX6_hasCircle_3 : decode cX6_hasCircle 3 = .ok (.invokevirtual 54, 3) := by decide +kernel
theorem dX6_hasCircle_6 : decode cX6_hasCircle 6 = .ok (.bipush (-2), 2) := by decide +kernel
theorem dX6_hasCircle_8 : decode cX6_hasCircle 8 = .ok (.if_icmp .ne 7, 3) := by decide +kernel
theorem dX6_hasCircle_11 : decode cX6_hasCircle 11 = .ok (.iconst 1, 1) := by decide +kernel
theorem dX6_hasCircle_12 : decode cX6_hasCircle 12 = .ok (.goto 4, 3) := by decide +kernel
theorem dX6_hasCircle_15 : decode cX6_hasCircle 15 = .ok (.iconst 0, 1) := by decide +kernel
theorem dX6_hasCircle_16 : decode cX6_hasCircle 16 = .ok (.ireturn, 1) := by decide +kernel
theorem dX6_follow_0 : decode cX6_follow 0 = .ok (.iload_n 1, 1) := by decide +kernel
theorem dX6_follow_1 : decode cX6_follow 1 = .ok (.istore_n 3, 1) := by decide +kernel
theorem dX6_follow_2 : decode cX6_follow 2 = .ok (.iconst 1, 1) := by decide +kernel
theorem dX6_follow_3 : decode cX6_follow 3 = .ok (.istore 4, 2) := by decide +kernel
theorem dX6_follow_5 : decode cX6_follow 5 = .ok (.iload 4, 2) := by decide +kernel
theorem dX6_follow_7 : decode cX6_follow 7 = .ok (.bipush 8, 2) := by decide +kernel
theorem dX6_follow_9 : decode cX6_follow 9 = .ok (.if_icmp .gt 37, 3) := by decide +kernel
theorem dX6_follow_12 : decode cX6_follow 12 = .ok (.iload_n 3, 1) := by decide +kernel
theorem dX6_follow_13 : decode cX6_follow 13 = .ok (.iload_n 2, 1) := by decide +kernel
theorem dX6_follow_14 : decode cX6_follow 14 = .ok (.if_icmp .ne 6, 3) := by decide +kernel
theorem dX6_follow_17 : decode cX6_follow 17 = .ok (.iload 4, 2) := by decide +kernel
theorem dX6_follow_19 : decode cX6_follow 19 = .ok (.ireturn, 1) := by decide +kernel
theorem dX6_follow_20 : decode cX6_follow 20 = .ok (.aload_n 0, 1) := by decide +kernel
theorem dX6_follow_21 : decode cX6_follow 21 = .ok (.iload_n 3, 1) := by decide +kernel
theorem dX6_follow_22 : decode cX6_follow 22 = .ok (.iload_n 2, 1) := by decide +kernel
theorem dX6_follow_23 : decode cX6_follow 23 = .ok (.invokevirtual 57, 3) := by decide +kernel
theorem dX6_follow_26 : decode cX6_follow 26 = .ok (.istore_n 3, 1) := by decide +kernel
theorem dX6_follow_27 : decode cX6_follow 27 = .ok (.aload_n 0, 1) := by decide +kernel
theorem dX6_follow_28 : decode cX6_follow 28 = .ok (.getfield 29, 3) := by decide +kernel
theorem dX6_follow_31 : decode cX6_follow 31 = .ok (.iload_n 3, 1) := by decide +kernel
theorem dX6_follow_32 : decode cX6_follow 32 = .ok (.invokevirtual 33, 3) := by decide +kernel
theorem dX6_follow_35 : decode cX6_follow 35 = .ok (.ifCond .ne 5, 3) := by decide +kernel
theorem dX6_follow_38 : decode cX6_follow 38 = .ok (.iconst (-1), 1) := by decide +kernel
theorem dX6_follow_39 : decode cX6_follow 39 = .ok (.ireturn, 1) := by decide +kernel
theorem dX6_follow_40 : decode cX6_follow 40 = .ok (.iinc 4 1, 3) := by decide +kernel
theorem dX6_follow_43 : decode cX6_follow 43 = .ok (.goto (-38), 3) := by decide +kernel
theorem dX6_follow_46 : decode cX6_follow 46 = .ok (.bipush (-2), 2) := by decide +kernel
theorem dX6_follow_48 : decode cX6_follow 48 = .ok (.ireturn, 1) := by decide +kernel
theorem dX6_pairsWithRoute_0 : decode cX6_pairsWithRoute 0 = .ok (.iconst 0, 1) := by decide +kernel
theorem dX6_pairsWithRoute_1 : decode cX6_pairsWithRoute 1 = .ok (.istore_n 1, 1) := by decide +kernel
theorem dX6_pairsWithRoute_2 : decode cX6_pairsWithRoute 2 = .ok (.iconst 0, 1) := by decide +kernel
theorem dX6_pairsWithRoute_3 : decode cX6_pairsWithRoute 3 = .ok (.istore_n 2, 1) := by decide +kernel
theorem dX6_pairsWithRoute_4 : decode cX6_pairsWithRoute 4 = .ok (.iload_n 2, 1) := by decide +kernel
theorem dX6_pairsWithRoute_5 : decode cX6_pairsWithRoute 5 = .ok (.aload_n 0, 1) := by decide +kernel
theorem dX6_pairsWithRoute_6 : decode cX6_pairsWithRoute 6 = .ok (.getfield 29, 3) := by decide +kernel
theorem dX6_pairsWithRoute_9 : decode cX6_pairsWithRoute 9 = .ok (.getfield 39, 3) := by decide +kernel
theorem dX6_pairsWithRoute_12 : decode cX6_pairsWithRoute 12 = .ok (.if_icmp .ge 48, 3) := by decide +kernel
theorem dX6_pairsWithRoute_15 : decode cX6_pairsWithRoute 15 = .ok (.iconst 0, 1) := by decide +kernel
theorem dX6_pairsWithRoute_16 : decode cX6_pairsWithRoute 16 = .ok (.istore_n 3, 1) := by decide +kernel
theorem dX6_pairsWithRoute_17 : decode cX6_pairsWithRoute 17 = .ok (.iload_n 3, 1) := by decide +kernel
theorem dX6_pairsWithRoute_18 : decode cX6_pairsWithRoute 18 = .ok (.aload_n 0, 1) := by decide +kernel
theorem dX6_pairsWithRoute_19 : decode cX6_pairsWithRoute 19 = .ok (.getfield 29, 3) := by decide +kernel
theorem dX6_pairsWithRoute_22 : decode cX6_pairsWithRoute 22 = .ok (.getfield 39, 3) := by decide +kernel
theorem dX6_pairsWithRoute_25 : decode cX6_pairsWithRoute 25 = .ok (.if_icmp .ge 29, 3) := by decide +kernel
theorem dX6_pairsWithRoute_28 : decode cX6_pairsWithRoute 28 = .ok (.iload_n 2, 1) := by decide +kernel
theorem dX6_pairsWithRoute_29 : decode cX6_pairsWithRoute 29 = .ok (.iload_n 3, 1) := by decide +kernel
theorem dX6_pairsWithRoute_30 : decode cX6_pairsWithRoute 30 = .ok (.if_icmp .eq 18, 3) := by decide +kernel
theorem dX6_pairsWithRoute_33 : decode cX6_pairsWithRoute 33 = .ok (.aload_n 0, 1) := by decide +kernel
theorem dX6_pairsWithRoute_34 : decode cX6_pairsWithRoute 34 = .ok (.getfield 16, 3) := by decide +kernel
theorem dX6_pairsWithRoute_37 : decode cX6_pairsWithRoute 37 = .ok (.iload_n 2, 1) := by decide +kernel
theorem dX6_pairsWithRoute_38 : decode cX6_pairsWithRoute 38 = .ok (.aaload, 1) := by decide +kernel
theorem dX6_pairsWithRoute_39 : decode cX6_pairsWithRoute 39 = .ok (.iload_n 3, 1) := by decide +kernel
theorem dX6_pairsWithRoute_40 : decode cX6_pairsWithRoute 40 = .ok (.iaload, 1) := by decide +kernel
theorem dX6_pairsWithRoute_41 : decode cX6_pairsWithRoute 41 = .ok (.iconst (-1), 1) := by decide +kernel
theorem dX6_pairsWithRoute_42 : decode cX6_pairsWithRoute 42 = .ok (.if_icmp .eq 6, 3) := by decide +kernel
theorem dX6_pairsWithRoute_45 : decode cX6_pairsWithRoute 45 = .ok (.iinc 1 1, 3) := by decide +kernel
theorem dX6_pairsWithRoute_48 : decode cX6_pairsWithRoute 48 = .ok (.iinc 3 1, 3) := by decide +kernel
theorem dX6_pairsWithRoute_51 : decode cX6_pairsWithRoute 51 = .ok (.goto (-34), 3) := by decide +kernel
theorem dX6_pairsWithRoute_54 : decode cX6_pairsWithRoute 54 = .ok (.iinc 2 1, 3) := by decide +kernel
theorem dX6_pairsWithRoute_57 : decode cX6_pairsWithRoute 57 = .ok (.goto (-53), 3) := by decide +kernel
theorem dX6_pairsWithRoute_60 : decode cX6_pairsWithRoute 60 = .ok (.iload_n 1, 1) := by decide +kernel
theorem dX6_pairsWithRoute_61 : decode cX6_pairsWithRoute 61 = .ok (.ireturn, 1) := by decide +kernel
theorem dX6_pairsWithCircle_0 : decode cX6_pairsWithCircle 0 = .ok (.iconst 0, 1) := by decide +kernel
theorem dX6_pairsWithCircle_1 : decode cX6_pairsWithCircle 1 = .ok (.istore_n 1, 1) := by decide +kernel
theorem dX6_pairsWithCircle_2 : decode cX6_pairsWithCircle 2 = .ok (.iconst 0, 1) := by decide +kernel
theorem dX6_pairsWithCircle_3 : decode cX6_pairsWithCircle 3 = .ok (.istore_n 2, 1) := by decide +kernel
theorem dX6_pairsWithCircle_4 : decode cX6_pairsWithCircle 4 = .ok (.iload_n 2, 1) := by decide +kernel
theorem dX6_pairsWithCircle_5 : decode cX6_pairsWithCircle 5 = .ok (.aload_n 0, 1) := by decide +kernel
theorem dX6_pairsWithCircle_6 : decode cX6_pairsWithCircle 6 = .ok (.getfield 29, 3) := by decide +kernel
theorem dX6_pairsWithCircle_9 : decode cX6_pairsWithCircle 9 = .ok (.getfield 39, 3) := by decide +kernel
theorem dX6_pairsWithCircle_12 : decode cX6_pairsWithCircle 12 = .ok (.if_icmp .ge 45, 3) := by decide +kernel
theorem dX6_pairsWithCircle_15 : decode cX6_pairsWithCircle 15 = .ok (.iconst 0, 1) := by decide +kernel
theorem dX6_pairsWithCircle_16 : decode cX6_pairsWithCircle 16 = .ok (.istore_n 3, 1) := by decide +kernel
theorem dX6_pairsWithCircle_17 : decode cX6_pairsWithCircle 17 = .ok (.iload_n 3, 1) := by decide +kernel
theorem dX6_pairsWithCircle_18 : decode cX6_pairsWithCircle 18 = .ok (.aload_n 0, 1) := by decide +kernel
theorem dX6_pairsWithCircle_19 : decode cX6_pairsWithCircle 19 = .ok (.getfield 29, 3) := by decide +kernel
theorem dX6_pairsWithCircle_22 : decode cX6_pairsWithCircle 22 = .ok (.getfield 39, 3) := by decide +kernel
theorem dX6_pairsWithCircle_25 : decode cX6_pairsWithCircle 25 = .ok (.if_icmp .ge 26, 3) := by decide +kernel
theorem dX6_pairsWithCircle_28 : decode cX6_pairsWithCircle 28 = .ok (.iload_n 2, 1) := by decide +kernel
theorem dX6_pairsWithCircle_29 : decode cX6_pairsWithCircle 29 = .ok (.iload_n 3, 1) := by decide +kernel
theorem dX6_pairsWithCircle_30 : decode cX6_pairsWithCircle 30 = .ok (.if_icmp .eq 15, 3) := by decide +kernel
theorem dX6_pairsWithCircle_33 : decode cX6_pairsWithCircle 33 = .ok (.aload_n 0, 1) := by decide +kernel
theorem dX6_pairsWithCircle_34 : decode cX6_pairsWithCircle 34 = .ok (.iload_n 2, 1) := by decide +kernel
theorem dX6_pairsWithCircle_35 : decode cX6_pairsWithCircle 35 = .ok (.iload_n 3, 1) := by decide +kernel
theorem dX6_pairsWithCircle_36 : decode cX6_pairsWithCircle 36 = .ok (.invokevirtual 60, 3) := by decide +kernel
theorem dX6_pairsWithCircle_39 : decode cX6_pairsWithCircle 39 = .ok (.ifCond .eq 6, 3) := by decide +kernel
theorem dX6_pairsWithCircle_42 : decode cX6_pairsWithCircle 42 = .ok (.iinc 1 1, 3) := by decide +kernel
theorem dX6_pairsWithCircle_45 : decode cX6_pairsWithCircle 45 = .ok (.iinc 3 1, 3) := by decide +kernel
theorem dX6_pairsWithCircle_48 : decode cX6_pairsWithCircle 48 = .ok (.goto (-31), 3) := by decide +kernel
theorem dX6_pairsWithCircle_51 : decode cX6_pairsWithCircle 51 = .ok (.iinc 2 1, 3) := by decide +kernel
theorem dX6_pairsWithCircle_54 : decode cX6_pairsWithCircle 54 = .ok (.goto (-50), 3) := by decide +kernel
theorem dX6_pairsWithCircle_57 : decode cX6_pairsWithCircle 57 = .ok (.iload_n 1, 1) := by decide +kernel
theorem dX6_pairsWithCircle_58 : decode cX6_pairsWithCircle 58 = .ok (.ireturn, 1) := by decide +kernel
theorem dX6_areInOrder_0 : decode cX6_areInOrder 0 = .ok (.iconst 0, 1) := by decide +kernel
theorem dX6_areInOrder_1 : decode cX6_areInOrder 1 = .ok (.istore_n 2, 1) := by decide +kernel
theorem dX6_areInOrder_2 : decode cX6_areInOrder 2 = .ok (.iload_n 2, 1) := by decide +kernel
theorem dX6_areInOrder_3 : decode cX6_areInOrder 3 = .ok (.aload_n 0, 1) := by decide +kernel
theorem dX6_areInOrder_4 : decode cX6_areInOrder 4 = .ok (.getfield 29, 3) := by decide +kernel
theorem dX6_areInOrder_7 : decode cX6_areInOrder 7 = .ok (.getfield 39, 3) := by decide +kernel
theorem dX6_areInOrder_10 : decode cX6_areInOrder 10 = .ok (.if_icmp .ge 61, 3) := by decide +kernel
theorem dX6_areInOrder_13 : decode cX6_areInOrder 13 = .ok (.aload_n 0, 1) := by decide +kernel
theorem dX6_areInOrder_14 : decode cX6_areInOrder 14 = .ok (.getfield 16, 3) := by decide +kernel
theorem dX6_areInOrder_17 : decode cX6_areInOrder 17 = .ok (.iload_n 1, 1) := by decide +kernel
theorem dX6_areInOrder_18 : decode cX6_areInOrder 18 = .ok (.aaload, 1) := by decide +kernel
theorem dX6_areInOrder_19 : decode cX6_areInOrder 19 = .ok (.iload_n 2, 1) := by decide +kernel
theorem dX6_areInOrder_20 : decode cX6_areInOrder 20 = .ok (.iaload, 1) := by decide +kernel
theorem dX6_areInOrder_21 : decode cX6_areInOrder 21 = .ok (.istore_n 3, 1) := by decide +kernel
theorem dX6_areInOrder_22 : decode cX6_areInOrder 22 = .ok (.iload_n 3, 1) := by decide +kernel
theorem dX6_areInOrder_23 : decode cX6_areInOrder 23 = .ok (.iconst (-1), 1) := by decide +kernel
theorem dX6_areInOrder_24 : decode cX6_areInOrder 24 = .ok (.if_icmp .ne 6, 3) := by decide +kernel
theorem dX6_areInOrder_27 : decode cX6_areInOrder 27 = .ok (.goto 38, 3) := by decide +kernel
theorem dX6_areInOrder_30 : decode cX6_areInOrder 30 = .ok (.aload_n 0, 1) := by decide +kernel
theorem dX6_areInOrder_31 : decode cX6_areInOrder 31 = .ok (.getfield 29, 3) := by decide +kernel
theorem dX6_areInOrder_34 : decode cX6_areInOrder 34 = .ok (.iload_n 3, 1) := by decide +kernel
theorem dX6_areInOrder_35 : decode cX6_areInOrder 35 = .ok (.invokevirtual 33, 3) := by decide +kernel
theorem dX6_areInOrder_38 : decode cX6_areInOrder 38 = .ok (.ifCond .eq 25, 3) := by decide +kernel
theorem dX6_areInOrder_41 : decode cX6_areInOrder 41 = .ok (.iload_n 3, 1) := by decide +kernel
theorem dX6_areInOrder_42 : decode cX6_areInOrder 42 = .ok (.iload_n 1, 1) := by decide +kernel
theorem dX6_areInOrder_43 : decode cX6_areInOrder 43 = .ok (.if_icmp .eq 20, 3) := by decide +kernel
theorem dX6_areInOrder_46 : decode cX6_areInOrder 46 = .ok (.aload_n 0, 1) := by decide +kernel
theorem dX6_areInOrder_47 : decode cX6_areInOrder 47 = .ok (.getfield 11, 3) := by decide +kernel
theorem dX6_areInOrder_50 : decode cX6_areInOrder 50 = .ok (.iload_n 1, 1) := by decide +kernel
theorem dX6_areInOrder_51 : decode cX6_areInOrder 51 = .ok (.aaload, 1) := by decide +kernel
theorem dX6_areInOrder_52 : decode cX6_areInOrder 52 = .ok (.iload_n 2, 1) := by decide +kernel
theorem dX6_areInOrder_53 : decode cX6_areInOrder 53 = .ok (.iaload, 1) := by decide +kernel
theorem dX6_areInOrder_54 : decode cX6_areInOrder 54 = .ok (.iconst 1, 1) := by decide +kernel
theorem dX6_areInOrder_55 : decode cX6_areInOrder 55 = .ok (.bipush 8, 2) := by decide +kernel
theorem dX6_areInOrder_57 : decode cX6_areInOrder 57 = .ok (.invokestatic 63, 3) := by decide +kernel
theorem dX6_areInOrder_60 : decode cX6_areInOrder 60 = .ok (.ifCond .ne 5, 3) := by decide +kernel
theorem dX6_areInOrder_63 : decode cX6_areInOrder 63 = .ok (.iconst 0, 1) := by decide +kernel
theorem dX6_areInOrder_64 : decode cX6_areInOrder 64 = .ok (.ireturn, 1) := by decide +kernel
theorem dX6_areInOrder_65 : decode cX6_areInOrder 65 = .ok (.iinc 2 1, 3) := by decide +kernel
theorem dX6_areInOrder_68 : decode cX6_areInOrder 68 = .ok (.goto (-66), 3) := by decide +kernel
theorem dX6_areInOrder_71 : decode cX6_areInOrder 71 = .ok (.iconst 1, 1) := by decide +kernel
theorem dX6_areInOrder_72 : decode cX6_areInOrder 72 = .ok (.ireturn, 1) := by decide +kernel
theorem dX7_init_0 : decode cX7_init 0 = .ok (.aload_n 0, 1) := by decide +kernel
theorem dX7_init_1 : decode cX7_init 1 = .ok (.invokespecial 3, 3) := by decide +kernel
theorem dX7_init_4 : decode cX7_init 4 = .ok (.aload_n 0, 1) := by decide +kernel
theorem dX7_init_5 : decode cX7_init 5 = .ok (.iconst 0, 1) := by decide +kernel
theorem dX7_init_6 : decode cX7_init 6 = .ok (.putfield 9, 3) := by decide +kernel
theorem dX7_init_9 : decode cX7_init 9 = .ok (.aload_n 0, 1) := by decide +kernel
theorem dX7_init_10 : decode cX7_init 10 = .ok (.bipush 41, 2) := by decide +kernel
theorem dX7_init_12 : decode cX7_init 12 = .ok (.putfield 15, 3) := by decide +kernel
theorem dX7_init_15 : decode cX7_init 15 = .ok (.aload_n 0, 1) := by decide +kernel
theorem dX7_init_16 : decode cX7_init 16 = .ok (.iconst 0, 1) := by decide +kernel
theorem dX7_init_17 : decode cX7_init 17 = .ok (.putfield 18, 3) := by decide +kernel
theorem dX7_init_20 : decode cX7_init 20 = .ok (.aload_n 0, 1) := by decide +kernel
theorem dX7_init_21 : decode cX7_init 21 = .ok (.iconst 0, 1) := by decide +kernel
theorem dX7_init_22 : decode cX7_init 22 = .ok (.putfield 21, 3) := by decide +kernel
theorem dX7_init_25 : decode cX7_init 25 = .ok (.aload_n 0, 1) := by decide +kernel
theorem dX7_init_26 : decode cX7_init 26 = .ok (.iconst 0, 1) := by decide +kernel
theorem dX7_init_27 : decode cX7_init 27 = .ok (.putfield 24, 3) := by decide +kernel
theorem dX7_init_30 : decode cX7_init 30 = .ok (.aload_n 0, 1) := by decide +kernel
theorem dX7_init_31 : decode cX7_init 31 = .ok (.aload_n 1, 1) := by decide +kernel
theorem dX7_init_32 : decode cX7_init 32 = .ok (.putfield 27, 3) := by decide +kernel
theorem dX7_init_35 : decode cX7_init 35 = .ok (.aload_n 0, 1) := by decide +kernel
theorem dX7_init_36 : decode cX7_init 36 = .ok (.aload_n 2, 1) := by decide +kernel
theorem dX7_init_37 : decode cX7_init 37 = .ok (.putfield 31, 3) := by decide +kernel
theorem dX7_init_40 : decode cX7_init 40 = .ok (.return_, 1) := by decide +kernel
theorem dX7_senders_0 : decode cX7_senders 0 = .ok (.iconst 0, 1) := by decide +kernel
theorem dX7_senders_1 : decode cX7_senders 1 = .ok (.istore_n 1, 1) := by decide +kernel
theorem dX7_senders_2 : decode cX7_senders 2 = .ok (.iconst 0, 1) := by decide +kernel
theorem dX7_senders_3 : decode cX7_senders 3 = .ok (.istore_n 2, 1) := by decide +kernel
theorem dX7_senders_4 : decode cX7_senders 4 = .ok (.iload_n 2, 1) := by decide +kernel
theorem dX7_senders_5 : decode cX7_senders 5 = .ok (.aload_n 0, 1) := by decide +kernel
theorem dX7_senders_6 : decode cX7_senders 6 = .ok (.getfield 27, 3) := by decide +kernel
theorem dX7_senders_9 : decode cX7_senders 9 = .ok (.getfield 35, 3) := by decide +kernel
theorem dX7_senders_12 : decode cX7_senders 12 = .ok (.if_icmp .ge 30, 3) := by decide +kernel
theorem dX7_senders_15 : decode cX7_senders 15 = .ok (.aload_n 0, 1) := by decide +kernel
theorem dX7_senders_16 : decode cX7_senders 16 = .ok (.getfield 27, 3) := by decide +kernel
theorem dX7_senders_19 : decode cX7_senders 19 = .ok (.getfield 40, 3) := by decide +kernel
theorem dX7_senders_22 : decode cX7_senders 22 = .ok (.iload_n 2, 1) := by decide +kernel
theorem dX7_senders_23 : decode cX7_senders 23 = .ok (.aaload, 1) := by decide +kernel
theorem dX7_senders_24 : decode cX7_senders 24 = .ok (.invokevirtual 44, 3) := by decide +kernel
theorem dX7_senders_27 : decode cX7_senders 27 = .ok (.ifCond .eq 9, 3) := by decide +kernel
theorem dX7_senders_30 : decode cX7_senders 30 = .ok (.iload_n 1, 1) := by decide +kernel
theorem dX7_senders_31 : decode cX7_senders 31 = .ok (.iconst 1, 1) := by decide +kernel
theorem dX7_senders_32 : decode cX7_senders 32 = .ok (.iload_n 2, 1) := by decide +kernel
theorem dX7_senders_33 : decode cX7_senders 33 = .ok (.ishl, 1) := by decide +kernel
theorem dX7_senders_34 : decode cX7_senders 34 = .ok (.ior, 1) := by decide +kernel
theorem dX7_senders_35 : decode cX7_senders 35 = .ok (.istore_n 1, 1) := by decide +kernel
theorem dX7_senders_36 : decode cX7_senders 36 = .ok (.iinc 2 1, 3) := by decide +kernel
theorem dX7_senders_39 : decode cX7_senders 39 = .ok (.goto (-35), 3) := by decide +kernel
theorem dX7_senders_42 : decode cX7_senders 42 = .ok (.iload_n 1, 1) := by decide +kernel
theorem dX7_senders_43 : decode cX7_senders 43 = .ok (.ireturn, 1) := by decide +kernel
theorem dX7_goBy_0 : decode cX7_goBy 0 = .ok (.aload_n 0, 1) := by decide +kernel
theorem dX7_goBy_1 : decode cX7_goBy 1 = .ok (.dup, 1) := by decide +kernel
theorem dX7_goBy_2 : decode cX7_goBy 2 = .ok (.getfield 9, 3) := by decide +kernel
theorem dX7_goBy_5 : decode cX7_goBy 5 = .ok (.iconst 1, 1) := by decide +kernel
theorem dX7_goBy_6 : decode cX7_goBy 6 = .ok (.iadd, 1) := by decide +kernel
theorem dX7_goBy_7 : decode cX7_goBy 7 = .ok (.putfield 9, 3) := by decide +kernel
theorem dX7_goBy_10 : decode cX7_goBy 10 = .ok (.aload_n 0, 1) := by decide +kernel
theorem dX7_goBy_11 : decode cX7_goBy 11 = .ok (.invokevirtual 50, 3) := by decide +kernel
theorem dX7_goBy_14 : decode cX7_goBy 14 = .ok (.istore_n 1, 1) := by decide +kernel
theorem dX7_goBy_15 : decode cX7_goBy 15 = .ok (.iconst 0, 1) := by decide +kernel
theorem dX7_goBy_16 : decode cX7_goBy 16 = .ok (.istore_n 2, 1) := by decide +kernel
theorem dX7_goBy_17 : decode cX7_goBy 17 = .ok (.iload_n 2, 1) := by decide +kernel
theorem dX7_goBy_18 : decode cX7_goBy 18 = .ok (.aload_n 0, 1) := by decide +kernel
theorem dX7_goBy_19 : decode cX7_goBy 19 = .ok (.getfield 27, 3) := by decide +kernel
theorem dX7_goBy_22 : decode cX7_goBy 22 = .ok (.getfield 35, 3) := by decide +kernel
theorem dX7_goBy_25 : decode cX7_goBy 25 = .ok (.if_icmp .ge 34, 3) := by decide +kernel
theorem dX7_goBy_28 : decode cX7_goBy 28 = .ok (.iload_n 1, 1) := by decide +kernel
theorem dX7_goBy_29 : decode cX7_goBy 29 = .ok (.iload_n 2, 1) := by decide +kernel
theorem dX7_goBy_30 : decode cX7_goBy 30 = .ok (.invokestatic 54, 3) := by decide +kernel
theorem dX7_goBy_33 : decode cX7_goBy 33 = .ok (.ifCond .ne 20, 3) := by decide +kernel
theorem dX7_goBy_36 : decode cX7_goBy 36 = .ok (.aload_n 0, 1) := by decide +kernel
theorem dX7_goBy_37 : decode cX7_goBy 37 = .ok (.getfield 27, 3) := by decide +kernel
theorem dX7_goBy_40 : decode cX7_goBy 40 = .ok (.iload_n 2, 1) := by decide +kernel
theorem dX7_goBy_41 : decode cX7_goBy 41 = .ok (.iload_n 1, 1) := by decide +kernel
theorem dX7_goBy_42 : decode cX7_goBy 42 = .ok (.invokevirtual 58, 3) := by decide +kernel
theorem dX7_goBy_45 : decode cX7_goBy 45 = .ok (.ifCond .ne 8, 3) := by decide +kernel
theorem dX7_goBy_48 : decode cX7_goBy 48 = .ok (.aload_n 0, 1) := by decide +kernel
theorem dX7_goBy_49 : decode cX7_goBy 49 = .ok (.iload_n 2, 1) := by decide +kernel
theorem dX7_goBy_50 : decode cX7_goBy 50 = .ok (.invokevirtual 61, 3) := by decide +kernel
theorem dX7_goBy_53 : decode cX7_goBy 53 = .ok (.iinc 2 1, 3) := by decide +kernel
theorem dX7_goBy_56 : decode cX7_goBy 56 = .ok (.goto (-39), 3) := by decide +kernel
theorem dX7_goBy_59 : decode cX7_goBy 59 = .ok (.aload_n 0, 1) := by decide +kernel
theorem dX7_goBy_60 : decode cX7_goBy 60 = .ok (.invokevirtual 50, 3) := by decide +kernel
theorem dX7_goBy_63 : decode cX7_goBy 63 = .ok (.istore_n 2, 1) := by decide +kernel
theorem dX7_goBy_64 : decode cX7_goBy 64 = .ok (.iconst 0, 1) := by decide +kernel
theorem dX7_goBy_65 : decode cX7_goBy 65 = .ok (.istore_n 3, 1) := by decide +kernel
theorem dX7_goBy_66 : decode cX7_goBy 66 = .ok (.iload_n 3, 1) := by decide +kernel
theorem dX7_goBy_67 : decode cX7_goBy 67 = .ok (.aload_n 0, 1) := by decide +kernel
theorem dX7_goBy_68 : decode cX7_goBy 68 = .ok (.getfield 27, 3) := by decide +kernel
theorem dX7_goBy_71 : decode cX7_goBy 71 = .ok (.getfield 35, 3) := by decide +kernel
theorem dX7_goBy_74 : decode cX7_goBy 74 = .ok (.if_icmp .ge 23, 3) := by decide +kernel
theorem dX7_goBy_77 : decode cX7_goBy 77 = .ok (.iload_n 2, 1) := by decide +kernel
theorem dX7_goBy_78 : decode cX7_goBy 78 = .ok (.iload_n 3, 1) := by decide +kernel
theorem dX7_goBy_79 : decode cX7_goBy 79 = .ok (.invokestatic 54, 3) := by decide +kernel
theorem dX7_goBy_82 : decode cX7_goBy 82 = .ok (.ifCond .eq 9, 3) := by decide +kernel
theorem dX7_goBy_85 : decode cX7_goBy 85 = .ok (.aload_n 0, 1) := by decide +kernel
theorem dX7_goBy_86 : decode cX7_goBy 86 = .ok (.iload_n 3, 1) := by decide +kernel
theorem dX7_goBy_87 : decode cX7_goBy 87 = .ok (.iload_n 2, 1) := by decide +kernel
theorem dX7_goBy_88 : decode cX7_goBy 88 = .ok (.invokevirtual 65, 3) := by decide +kernel
theorem dX7_goBy_91 : decode cX7_goBy 91 = .ok (.iinc 3 1, 3) := by decide +kernel
theorem dX7_goBy_94 : decode cX7_goBy 94 = .ok (.goto (-28), 3) := by decide +kernel
theorem dX7_goBy_97 : decode cX7_goBy 97 = .ok (.iconst 0, 1) := by decide +kernel
theorem dX7_goBy_98 : decode cX7_goBy 98 = .ok (.istore_n 3, 1) := by decide +kernel
theorem dX7_goBy_99 : decode cX7_goBy 99 = .ok (.iload_n 3, 1) := by decide +kernel
theorem dX7_goBy_100 : decode cX7_goBy 100 = .ok (.aload_n 0, 1) := by decide +kernel
theorem dX7_goBy_101 : decode cX7_goBy 101 = .ok (.getfield 27, 3) := by decide +kernel
theorem dX7_goBy_104 : decode cX7_goBy 104 = .ok (.getfield 35, 3) := by decide +kernel
theorem dX7_goBy_107 : decode cX7_goBy 107 = .ok (.if_icmp .ge 37, 3) := by decide +kernel
theorem dX7_goBy_110 : decode cX7_goBy 110 = .ok (.iload_n 2, 1) := by decide +kernel
theorem dX7_goBy_111 : decode cX7_goBy 111 = .ok (.iload_n 3, 1) := by decide +kernel
theorem dX7_goBy_112 : decode cX7_goBy 112 = .ok (.invokestatic 54, 3) := by decide +kernel
theorem dX7_goBy_115 : decode cX7_goBy 115 = .ok (.ifCond .eq 23, 3) := by decide +kernel
theorem dX7_goBy_118 : decode cX7_goBy 118 = .ok (.aload_n 0, 1) := by decide +kernel
theorem dX7_goBy_119 : decode cX7_goBy 119 = .ok (.getfield 27, 3) := by decide +kernel
theorem dX7_goBy_122 : decode cX7_goBy 122 = .ok (.getfield 40, 3) := by decide +kernel
theorem dX7_goBy_125 : decode cX7_goBy 125 = .ok (.iload_n 3, 1) := by decide +kernel
theorem dX7_goBy_126 : decode cX7_goBy 126 = .ok (.aaload, 1) := by decide +kernel
theorem dX7_goBy_127 : decode cX7_goBy 127 = .ok (.invokevirtual 44, 3) := by decide +kernel
theorem dX7_goBy_130 : decode cX7_goBy 130 = .ok (.ifCond .ne 8, 3) := by decide +kernel
theorem dX7_goBy_133 : decode cX7_goBy 133 = .ok (.aload_n 0, 1) := by decide +kernel
theorem dX7_goBy_134 : decode cX7_goBy 134 = .ok (.iload_n 3, 1) := by decide +kernel
theorem dX7_goBy_135 : decode cX7_goBy 135 = .ok (.invokevirtual 69, 3) := by decide +kernel
theorem dX7_goBy_138 : decode cX7_goBy 138 = .ok (.iinc 3 1, 3) := by decide +kernel
theorem dX7_goBy_141 : decode cX7_goBy 141 = .ok (.goto (-42), 3) := by decide +kernel
theorem dX7_goBy_144 : decode cX7_goBy 144 = .ok (.return_, 1) := by decide +kernel
theorem dX7_takeTurn_0 : decode cX7_takeTurn 0 = .ok (.aload_n 0, 1) := by decide +kernel
theorem dX7_takeTurn_1 : decode cX7_takeTurn 1 = .ok (.getfield 27, 3) := by decide +kernel
theorem dX7_takeTurn_4 : decode cX7_takeTurn 4 = .ok (.getfield 40, 3) := by decide +kernel
theorem dX7_takeTurn_7 : decode cX7_takeTurn 7 = .ok (.iload_n 1, 1) := by decide +kernel
theorem dX7_takeTurn_8 : decode cX7_takeTurn 8 = .ok (.aaload, 1) := by decide +kernel
theorem dX7_takeTurn_9 : decode cX7_takeTurn 9 = .ok (.astore_n 2, 1) := by decide +kernel
theorem dX7_takeTurn_10 : decode cX7_takeTurn 10 = .ok (.aload_n 2, 1) := by decide +kernel
theorem dX7_takeTurn_11 : decode cX7_takeTurn 11 = .ok (.getfield 72, 3) := by decide +kernel
theorem dX7_takeTurn_14 : decode cX7_takeTurn 14 = .ok (.iconst 0, 1) := by decide +kernel
theorem dX7_takeTurn_15 : decode cX7_takeTurn 15 = .ok (.invokevirtual 76, 3) := by decide +kernel
theorem dX7_takeTurn_18 : decode cX7_takeTurn 18 = .ok (.astore_n 3, 1) := by decide +kernel
theorem dX7_takeTurn_19 : decode cX7_takeTurn 19 = .ok (.aload_n 3, 1) := by decide +kernel
theorem dX7_takeTurn_20 : decode cX7_takeTurn 20 = .ok (.ifnonnull 4, 3) := by decide +kernel
theorem dX7_takeTurn_23 : decode cX7_takeTurn 23 = .ok (.return_, 1) := by decide +kernel
theorem dX7_takeTurn_24 : decode cX7_takeTurn 24 = .ok (.aload_n 2, 1) := by decide +kernel
theorem dX7_takeTurn_25 : decode cX7_takeTurn 25 = .ok (.getfield 82, 3) := by decide +kernel
theorem dX7_takeTurn_28 : decode cX7_takeTurn 28 = .ok (.ifCond .le 14, 3) := by decide +kernel
theorem dX7_takeTurn_31 : decode cX7_takeTurn 31 = .ok (.aload_n 2, 1) := by decide +kernel
theorem dX7_takeTurn_32 : decode cX7_takeTurn 32 = .ok (.dup, 1) := by decide +kernel
theorem dX7_takeTurn_33 : decode cX7_takeTurn 33 = .ok (.getfield 82, 3) := by decide +kernel
theorem dX7_takeTurn_36 : decode cX7_takeTurn 36 = .ok (.iconst 1, 1) := by decide +kernel
theorem dX7_takeTurn_37 : decode cX7_takeTurn 37 = .ok (.isub, 1) := by decide +kernel
theorem dX7_takeTurn_38 : decode cX7_takeTurn 38 = .ok (.putfield 82, 3) := by decide +kernel
theorem dX7_takeTurn_41 : decode cX7_takeTurn 41 = .ok (.return_, 1) := by decide +kernel
theorem dX7_takeTurn_42 : decode cX7_takeTurn 42 = .ok (.aload_n 0, 1) := by decide +kernel
theorem dX7_takeTurn_43 : decode cX7_takeTurn 43 = .ok (.getfield 31, 3) := by decide +kernel
theorem dX7_takeTurn_46 : decode cX7_takeTurn 46 = .ok (.iload_n 1, 1) := by decide +kernel
theorem dX7_takeTurn_47 : decode cX7_takeTurn 47 = .ok (.aload_n 3, 1) := by decide +kernel
theorem dX7_takeTurn_48 : decode cX7_takeTurn 48 = .ok (.getfield 85, 3) := by decide +kernel
theorem dX7_takeTurn_51 : decode cX7_takeTurn 51 = .ok (.invokevirtual 90, 3) := by decide +kernel
theorem dX7_takeTurn_54 : decode cX7_takeTurn 54 = .ok (.istore 4, 2) := by decide +kernel
theorem dX7_takeTurn_56 : decode cX7_takeTurn 56 = .ok (.iload 4, 2) := by decide +kernel
theorem dX7_takeTurn_58 : decode cX7_takeTurn 58 = .ok (.iconst (-1), 1) := by decide +kernel
theorem dX7_takeTurn_59 : decode cX7_takeTurn 59 = .ok (.if_icmp .ne 11, 3) := by decide +kernel
theorem dX7_takeTurn_62 : decode cX7_takeTurn 62 = .ok (.aload_n 0, 1) := by decide +kernel
theorem dX7_takeTurn_63 : decode cX7_takeTurn 63 = .ok (.aload_n 2, 1) := by decide +kernel
theorem dX7_takeTurn_64 : decode cX7_takeTurn 64 = .ok (.invokevirtual 96, 3) := by decide +kernel
theorem dX7_takeTurn_67 : decode cX7_takeTurn 67 = .ok (.goto 13, 3) := by decide +kernel
theorem dX7_takeTurn_70 : decode cX7_takeTurn 70 = .ok (.aload_n 2, 1) := by decide +kernel
theorem dX7_takeTurn_71 : decode cX7_takeTurn 71 = .ok (.aload_n 3, 1) := by decide +kernel
theorem dX7_takeTurn_72 : decode cX7_takeTurn 72 = .ok (.getfield 100, 3) := by decide +kernel
theorem dX7_takeTurn_75 : decode cX7_takeTurn 75 = .ok (.iload 4, 2) := by decide +kernel
theorem dX7_takeTurn_77 : decode cX7_takeTurn 77 = .ok (.invokevirtual 103, 3) := by decide +kernel
theorem dX7_takeTurn_80 : decode cX7_takeTurn 80 = .ok (.return_, 1) := by decide +kernel
theorem dX7_goOn_0 : decode cX7_goOn 0 = .ok (.aload_n 0, 1) := by decide +kernel
theorem dX7_goOn_1 : decode cX7_goOn 1 = .ok (.getfield 27, 3) := by decide +kernel
theorem dX7_goOn_4 : decode cX7_goOn 4 = .ok (.getfield 40, 3) := by decide +kernel
theorem dX7_goOn_7 : decode cX7_goOn 7 = .ok (.iload_n 1, 1) := by decide +kernel
theorem dX7_goOn_8 : decode cX7_goOn 8 = .ok (.aaload, 1) := by decide +kernel
theorem dX7_goOn_9 : decode cX7_goOn 9 = .ok (.astore_n 3, 1) := by decide +kernel
theorem dX7_goOn_10 : decode cX7_goOn 10 = .ok (.aload_n 3, 1) := by decide +kernel
theorem dX7_goOn_11 : decode cX7_goOn 11 = .ok (.dup, 1) := by decide +kernel
theorem dX7_goOn_12 : decode cX7_goOn 12 = .ok (.getfield 106, 3) := by decide +kernel
theorem dX7_goOn_15 : decode cX7_goOn 15 = .ok (.iconst 1, 1) := by decide +kernel
theorem dX7_goOn_16 : decode cX7_goOn 16 = .ok (.iadd, 1) := by decide +kernel
theorem dX7_goOn_17 : decode cX7_goOn 17 = .ok (.putfield 106, 3) := by decide +kernel
theorem dX7_goOn_20 : decode cX7_goOn 20 = .ok (.aload_n 3, 1) := by decide +kernel
theorem dX7_goOn_21 : decode cX7_goOn 21 = .ok (.dup, 1) := by decide +kernel
theorem dX7_goOn_22 : decode cX7_goOn 22 = .ok (.getfield 109, 3) := by decide +kernel
theorem dX7_goOn_25 : decode cX7_goOn 25 = .ok (.iconst 1, 1) := by decide +kernel
theorem dX7_goOn_26 : decode cX7_goOn 26 = .ok (.isub, 1) := by decide +kernel
theorem dX7_goOn_27 : decode cX7_goOn 27 = .ok (.putfield 109, 3) := by decide +kernel
theorem dX7_goOn_30 : decode cX7_goOn 30 = .ok (.aload_n 0, 1) := by decide +kernel
theorem dX7_goOn_31 : decode cX7_goOn 31 = .ok (.getfield 27, 3) := by decide +kernel
theorem dX7_goOn_34 : decode cX7_goOn 34 = .ok (.aload_n 3, 1) := by decide +kernel
theorem dX7_goOn_35 : decode cX7_goOn 35 = .ok (.getfield 112, 3) := by decide +kernel
theorem dX7_goOn_38 : decode cX7_goOn 38 = .ok (.invokevirtual 115, 3) := by decide +kernel
theorem dX7_goOn_41 : decode cX7_goOn 41 = .ok (.ifCond .eq 19, 3) := by decide +kernel
theorem dX7_goOn_44 : decode cX7_goOn 44 = .ok (.aload_n 0, 1) := by decide +kernel
theorem dX7_goOn_45 : decode cX7_goOn 45 = .ok (.getfield 27, 3) := by decide +kernel
theorem dX7_goOn_48 : decode cX7_goOn 48 = .ok (.aload_n 3, 1) := by decide +kernel
theorem dX7_goOn_49 : decode cX7_goOn 49 = .ok (.getfield 112, 3) := by decide +kernel
theorem dX7_goOn_52 : decode cX7_goOn 52 = .ok (.iload_n 1, 1) := by decide +kernel
theorem dX7_goOn_53 : decode cX7_goOn 53 = .ok (.iload_n 2, 1) := by decide +kernel
theorem dX7_goOn_54 : decode cX7_goOn 54 = .ok (.invokevirtual 119, 3) := by decide +kernel
theorem dX7_goOn_57 : decode cX7_goOn 57 = .ok (.ifCond .ne 8, 3) := by decide +kernel
theorem dX7_goOn_60 : decode cX7_goOn 60 = .ok (.aload_n 3, 1) := by decide +kernel
theorem dX7_goOn_61 : decode cX7_goOn 61 = .ok (.iconst 0, 1) := by decide +kernel
theorem dX7_goOn_62 : decode cX7_goOn 62 = .ok (.putfield 123, 3) := by decide +kernel
theorem dX7_goOn_65 : decode cX7_goOn 65 = .ok (.return_, 1) := by decide +kernel
theorem dX7_end_0 : decode cX7_end 0 = .ok (.aload_n 0, 1) := by decide +kernel
theorem dX7_end_1 : decode cX7_end 1 = .ok (.getfield 27, 3) := by decide +kernel
theorem dX7_end_4 : decode cX7_end 4 = .ok (.getfield 40, 3) := by decide +kernel
theorem dX7_end_7 : decode cX7_end 7 = .ok (.iload_n 1, 1) := by decide +kernel
theorem dX7_end_8 : decode cX7_end 8 = .ok (.aaload, 1) := by decide +kernel
theorem dX7_end_9 : decode cX7_end 9 = .ok (.astore_n 2, 1) := by decide +kernel
theorem dX7_end_10 : decode cX7_end 10 = .ok (.aload_n 2, 1) := by decide +kernel
theorem dX7_end_11 : decode cX7_end 11 = .ok (.getfield 112, 3) := by decide +kernel
theorem dX7_end_14 : decode cX7_end 14 = .ok (.istore_n 3, 1) := by decide +kernel
theorem dX7_end_15 : decode cX7_end 15 = .ok (.aload_n 2, 1) := by decide +kernel
theorem dX7_end_16 : decode cX7_end 16 = .ok (.iconst (-1), 1) := by decide +kernel
theorem dX7_end_17 : decode cX7_end 17 = .ok (.putfield 112, 3) := by decide +kernel
theorem dX7_end_20 : decode cX7_end 20 = .ok (.aload_n 2, 1) := by decide +kernel
theorem dX7_end_21 : decode cX7_end 21 = .ok (.getfield 72, 3) := by decide +kernel
theorem dX7_end_24 : decode cX7_end 24 = .ok (.iconst 0, 1) := by decide +kernel
theorem dX7_end_25 : decode cX7_end 25 = .ok (.invokevirtual 76, 3) := by decide +kernel
theorem dX7_end_28 : decode cX7_end 28 = .ok (.astore 4, 2) := by decide +kernel
theorem dX7_end_30 : decode cX7_end 30 = .ok (.aload 4, 2) := by decide +kernel
theorem dX7_end_32 : decode cX7_end 32 = .ok (.ifnull 14, 3) := by decide +kernel
theorem dX7_end_35 : decode cX7_end 35 = .ok (.aload_n 0, 1) := by decide +kernel
theorem dX7_end_36 : decode cX7_end 36 = .ok (.getfield 27, 3) := by decide +kernel
theorem dX7_end_39 : decode cX7_end 39 = .ok (.iload_n 3, 1) := by decide +kernel
theorem dX7_end_40 : decode cX7_end 40 = .ok (.invokevirtual 115, 3) := by decide +kernel
theorem dX7_end_43 : decode cX7_end 43 = .ok (.ifCond .ne 4, 3) := by decide +kernel
theorem dX7_end_46 : decode cX7_end 46 = .ok (.return_, 1) := by decide +kernel
theorem dX7_end_47 : decode cX7_end 47 = .ok (.aload_n 2, 1) := by decide +kernel
theorem dX7_end_48 : decode cX7_end 48 = .ok (.getfield 123, 3) := by decide +kernel
theorem dX7_end_51 : decode cX7_end 51 = .ok (.ifCond .eq 10, 3) := by decide +kernel
theorem dX7_end_54 : decode cX7_end 54 = .ok (.aload_n 0, 1) := by decide +kernel
theorem dX7_end_55 : decode cX7_end 55 = .ok (.iload_n 3, 1) := by decide +kernel
theorem dX7_end_56 : decode cX7_end 56 = .ok (.aload 4, 2) := by decide +kernel
theorem dX7_end_58 : decode cX7_end 58 = .ok (.invokevirtual 127, 3) := by decide +kernel
theorem dX7_end_61 : decode cX7_end 61 = .ok (.aload_n 2, 1) := by decide +kernel
theorem dX7_end_62 : decode cX7_end 62 = .ok (.getfield 123, 3) := by decide +kernel
theorem dX7_end_65 : decode cX7_end 65 = .ok (.ifCond .eq 22, 3) := by decide +kernel
theorem dX7_end_68 : decode cX7_end 68 = .ok (.aload_n 0, 1) := by decide +kernel
theorem dX7_end_69 : decode cX7_end 69 = .ok (.getfield 27, 3) := by decide +kernel
theorem dX7_end_72 : decode cX7_end 72 = .ok (.iload_n 1, 1) := by decide +kernel
theorem dX7_end_73 : decode cX7_end 73 = .ok (.iload_n 3, 1) := by decide +kernel
theorem dX7_end_74 : decode cX7_end 74 = .ok (.invokevirtual 131, 3) := by decide +kernel
theorem dX7_end_77 : decode cX7_end 77 = .ok (.ifCond .eq 10, 3) := by decide +kernel
theorem dX7_end_80 : decode cX7_end 80 = .ok (.aload_n 2, 1) := by decide +kernel
theorem dX7_end_81 : decode cX7_end 81 = .ok (.invokevirtual 134, 3) := by decide +kernel
theorem dX7_end_84 : decode cX7_end 84 = .ok (.goto 8, 3) := by decide +kernel
theorem dX7_end_87 : decode cX7_end 87 = .ok (.aload_n 0, 1) := by decide +kernel
theorem dX7_end_88 : decode cX7_end 88 = .ok (.aload_n 2, 1) := by decide +kernel
theorem dX7_end_89 : decode cX7_end 89 = .ok (.invokevirtual 137, 3) := by decide +kernel
theorem dX7_end_92 : decode cX7_end 92 = .ok (.return_, 1) := by decide +kernel
theorem dX7_tryAgain_0 : decode cX7_tryAgain 0 = .ok (.aload_n 1, 1) := by decide +kernel
theorem dX7_tryAgain_1 : decode cX7_tryAgain 1 = .ok (.dup, 1) := by decide +kernel
theorem dX7_tryAgain_2 : decode cX7_tryAgain 2 = .ok (.getfield 140, 3) := by decide +kernel
theorem dX7_tryAgain_5 : decode cX7_tryAgain 5 = .ok (.iconst 1, 1) := by decide +kernel
theorem dX7_tryAgain_6 : decode cX7_tryAgain 6 = .ok (.iadd, 1) := by decide +kernel
theorem dX7_tryAgain_7 : decode cX7_tryAgain 7 = .ok (.putfield 140, 3) := by decide +kernel
theorem dX7_tryAgain_10 : decode cX7_tryAgain 10 = .ok (.aload_n 1, 1) := by decide +kernel
theorem dX7_tryAgain_11 : decode cX7_tryAgain 11 = .ok (.getfield 140, 3) := by decide +kernel
theorem dX7_tryAgain_14 : decode cX7_tryAgain 14 = .ok (.iconst 5, 1) := by decide +kernel
theorem dX7_tryAgain_15 : decode cX7_tryAgain 15 = .ok (.if_icmp .lt 11, 3) := by decide +kernel
theorem dX7_tryAgain_18 : decode cX7_tryAgain 18 = .ok (.aload_n 0, 1) := by decide +kernel
theorem dX7_tryAgain_19 : decode cX7_tryAgain 19 = .ok (.aload_n 1, 1) := by decide +kernel
theorem dX7_tryAgain_20 : decode cX7_tryAgain 20 = .ok (.invokevirtual 96, 3) := by decide +kernel
theorem dX7_tryAgain_23 : decode cX7_tryAgain 23 = .ok (.goto 30, 3) := by decide +kernel
theorem dX7_tryAgain_26 : decode cX7_tryAgain 26 = .ok (.aload_n 1, 1) := by decide +kernel
theorem dX7_tryAgain_27 : decode cX7_tryAgain 27 = .ok (.aload_n 1, 1) := by decide +kernel
theorem dX7_tryAgain_28 : decode cX7_tryAgain 28 = .ok (.getfield 143, 3) := by decide +kernel
theorem dX7_tryAgain_31 : decode cX7_tryAgain 31 = .ok (.ifCond .eq 7, 3) := by decide +kernel
theorem dX7_tryAgain_34 : decode cX7_tryAgain 34 = .ok (.iconst 0, 1) := by decide +kernel
theorem dX7_tryAgain_35 : decode cX7_tryAgain 35 = .ok (.goto 15, 3) := by decide +kernel
theorem dX7_tryAgain_38 : decode cX7_tryAgain 38 = .ok (.aload_n 0, 1) := by decide +kernel
theorem dX7_tryAgain_39 : decode cX7_tryAgain 39 = .ok (.iconst 1, 1) := by decide +kernel
theorem dX7_tryAgain_40 : decode cX7_tryAgain 40 = .ok (.aload_n 1, 1) := by decide +kernel
theorem dX7_tryAgain_41 : decode cX7_tryAgain 41 = .ok (.getfield 140, 3) := by decide +kernel
theorem dX7_tryAgain_44 : decode cX7_tryAgain 44 = .ok (.iconst 1, 1) := by decide +kernel
theorem dX7_tryAgain_45 : decode cX7_tryAgain 45 = .ok (.iadd, 1) := by decide +kernel
theorem dX7_tryAgain_46 : decode cX7_tryAgain 46 = .ok (.ishl, 1) := by decide +kernel
theorem dX7_tryAgain_47 : decode cX7_tryAgain 47 = .ok (.invokevirtual 146, 3) := by decide +kernel
theorem dX7_tryAgain_50 : decode cX7_tryAgain 50 = .ok (.invokevirtual 150, 3) := by decide +kernel
theorem dX7_tryAgain_53 : decode cX7_tryAgain 53 = .ok (.return_, 1) := by decide +kernel
theorem dX7_receive_0 : decode cX7_receive 0 = .ok (.aload_n 2, 1) := by decide +kernel
theorem dX7_receive_1 : decode cX7_receive 1 = .ok (.getfield 85, 3) := by decide +kernel
theorem dX7_receive_4 : decode cX7_receive 4 = .ok (.iload_n 1, 1) := by decide +kernel
theorem dX7_receive_5 : decode cX7_receive 5 = .ok (.if_icmp .ne 9, 3) := by decide +kernel
theorem dX7_receive_8 : decode cX7_receive 8 = .ok (.aload_n 0, 1) := by decide +kernel
theorem dX7_receive_9 : decode cX7_receive 9 = .ok (.aload_n 2, 1) := by decide +kernel
theorem dX7_receive_10 : decode cX7_receive 10 = .ok (.invokevirtual 153, 3) := by decide +kernel
theorem dX7_receive_13 : decode cX7_receive 13 = .ok (.return_, 1) := by decide +kernel
theorem dX7_receive_14 : decode cX7_receive 14 = .ok (.aload_n 2, 1) := by decide +kernel
theorem dX7_receive_15 : decode cX7_receive 15 = .ok (.getfield 157, 3) := by decide +kernel
theorem dX7_receive_18 : decode cX7_receive 18 = .ok (.bipush 7, 2) := by decide +kernel
theorem dX7_receive_20 : decode cX7_receive 20 = .ok (.if_icmp .ge 22, 3) := by decide +kernel
theorem dX7_receive_23 : decode cX7_receive 23 = .ok (.aload_n 0, 1) := by decide +kernel
theorem dX7_receive_24 : decode cX7_receive 24 = .ok (.getfield 27, 3) := by decide +kernel
theorem dX7_receive_27 : decode cX7_receive 27 = .ok (.getfield 40, 3) := by decide +kernel
theorem dX7_receive_30 : decode cX7_receive 30 = .ok (.iload_n 1, 1) := by decide +kernel
theorem dX7_receive_31 : decode cX7_receive 31 = .ok (.aaload, 1) := by decide +kernel
theorem dX7_receive_32 : decode cX7_receive 32 = .ok (.getfield 72, 3) := by decide +kernel
theorem dX7_receive_35 : decode cX7_receive 35 = .ok (.aload_n 2, 1) := by decide +kernel
theorem dX7_receive_36 : decode cX7_receive 36 = .ok (.invokestatic 160, 3) := by decide +kernel
theorem dX7_receive_39 : decode cX7_receive 39 = .ok (.ifCond .ne 13, 3) := by decide +kernel
theorem dX7_receive_42 : decode cX7_receive 42 = .ok (.aload_n 0, 1) := by decide +kernel
theorem dX7_receive_43 : decode cX7_receive 43 = .ok (.dup, 1) := by decide +kernel
theorem dX7_receive_44 : decode cX7_receive 44 = .ok (.getfield 24, 3) := by decide +kernel
theorem dX7_receive_47 : decode cX7_receive 47 = .ok (.iconst 1, 1) := by decide +kernel
theorem dX7_receive_48 : decode cX7_receive 48 = .ok (.iadd, 1) := by decide +kernel
theorem dX7_receive_49 : decode cX7_receive 49 = .ok (.putfield 24, 3) := by decide +kernel
theorem dX7_receive_52 : decode cX7_receive 52 = .ok (.return_, 1) := by decide +kernel
theorem dX7_pushCopy_0 : decode cX7_pushCopy 0 = .ok (.aload_n 0, 1) := by decide +kernel
theorem dX7_pushCopy_1 : decode cX7_pushCopy 1 = .ok (.aload_n 1, 1) := by decide +kernel
theorem dX7_pushCopy_2 : decode cX7_pushCopy 2 = .ok (.getfield 164, 3) := by decide +kernel
theorem dX7_pushCopy_5 : decode cX7_pushCopy 5 = .ok (.aload_n 1, 1) := by decide +kernel
theorem dX7_pushCopy_6 : decode cX7_pushCopy 6 = .ok (.getfield 85, 3) := by decide +kernel
theorem dX7_pushCopy_9 : decode cX7_pushCopy 9 = .ok (.aload_n 1, 1) := by decide +kernel
theorem dX7_pushCopy_10 : decode cX7_pushCopy 10 = .ok (.getfield 100, 3) := by decide +kernel
theorem dX7_pushCopy_13 : decode cX7_pushCopy 13 = .ok (.aload_n 1, 1) := by decide +kernel
theorem dX7_pushCopy_14 : decode cX7_pushCopy 14 = .ok (.getfield 167, 3) := by decide +kernel
theorem dX7_pushCopy_17 : decode cX7_pushCopy 17 = .ok (.aload_n 1, 1) := by decide +kernel
theorem dX7_pushCopy_18 : decode cX7_pushCopy 18 = .ok (.getfield 157, 3) := by decide +kernel
theorem dX7_pushCopy_21 : decode cX7_pushCopy 21 = .ok (.iconst 1, 1) := by decide +kernel
theorem dX7_pushCopy_22 : decode cX7_pushCopy 22 = .ok (.iadd, 1) := by decide +kernel
theorem dX7_pushCopy_23 : decode cX7_pushCopy 23 = .ok (.invokevirtual 170, 3) := by decide +kernel
theorem dX7_pushCopy_26 : decode cX7_pushCopy 26 = .ok (.ireturn, 1) := by decide +kernel
theorem dX7_arrive_0 : decode cX7_arrive 0 = .ok (.aload_n 0, 1) := by decide +kernel
theorem dX7_arrive_1 : decode cX7_arrive 1 = .ok (.getfield 27, 3) := by decide +kernel
theorem dX7_arrive_4 : decode cX7_arrive 4 = .ok (.aload_n 1, 1) := by decide +kernel
theorem dX7_arrive_5 : decode cX7_arrive 5 = .ok (.getfield 164, 3) := by decide +kernel
theorem dX7_arrive_8 : decode cX7_arrive 8 = .ok (.invokevirtual 115, 3) := by decide +kernel
theorem dX7_arrive_11 : decode cX7_arrive 11 = .ok (.ifCond .ne 4, 3) := by decide +kernel
theorem dX7_arrive_14 : decode cX7_arrive 14 = .ok (.return_, 1) := by decide +kernel
theorem dX7_arrive_15 : decode cX7_arrive 15 = .ok (.aload_n 0, 1) := by decide +kernel
theorem dX7_arrive_16 : decode cX7_arrive 16 = .ok (.getfield 27, 3) := by decide +kernel
theorem dX7_arrive_19 : decode cX7_arrive 19 = .ok (.getfield 40, 3) := by decide +kernel
theorem dX7_arrive_22 : decode cX7_arrive 22 = .ok (.aload_n 1, 1) := by decide +kernel
theorem dX7_arrive_23 : decode cX7_arrive 23 = .ok (.getfield 164, 3) := by decide +kernel
theorem dX7_arrive_26 : decode cX7_arrive 26 = .ok (.aaload, 1) := by decide +kernel
theorem dX7_arrive_27 : decode cX7_arrive 27 = .ok (.getfield 174, 3) := by decide +kernel
theorem dX7_arrive_30 : decode cX7_arrive 30 = .ok (.astore_n 2, 1) := by decide +kernel
theorem dX7_arrive_31 : decode cX7_arrive 31 = .ok (.aload_n 2, 1) := by decide +kernel
theorem dX7_arrive_32 : decode cX7_arrive 32 = .ok (.aload_n 1, 1) := by decide +kernel
theorem dX7_arrive_33 : decode cX7_arrive 33 = .ok (.getfield 167, 3) := by decide +kernel
theorem dX7_arrive_36 : decode cX7_arrive 36 = .ok (.invokevirtual 178, 3) := by decide +kernel
theorem dX7_arrive_39 : decode cX7_arrive 39 = .ok (.ifCond .eq 16, 3) := by decide +kernel
theorem dX7_arrive_42 : decode cX7_arrive 42 = .ok (.aload_n 0, 1) := by decide +kernel
theorem dX7_arrive_43 : decode cX7_arrive 43 = .ok (.dup, 1) := by decide +kernel
theorem dX7_arrive_44 : decode cX7_arrive 44 = .ok (.getfield 21, 3) := by decide +kernel
theorem dX7_arrive_47 : decode cX7_arrive 47 = .ok (.iconst 1, 1) := by decide +kernel
theorem dX7_arrive_48 : decode cX7_arrive 48 = .ok (.iadd, 1) := by decide +kernel
theorem dX7_arrive_49 : decode cX7_arrive 49 = .ok (.putfield 21, 3) := by decide +kernel
theorem dX7_arrive_52 : decode cX7_arrive 52 = .ok (.goto 21, 3) := by decide +kernel
theorem dX7_arrive_55 : decode cX7_arrive 55 = .ok (.aload_n 2, 1) := by decide +kernel
theorem dX7_arrive_56 : decode cX7_arrive 56 = .ok (.aload_n 1, 1) := by decide +kernel
theorem dX7_arrive_57 : decode cX7_arrive 57 = .ok (.getfield 167, 3) := by decide +kernel
theorem dX7_arrive_60 : decode cX7_arrive 60 = .ok (.invokevirtual 183, 3) := by decide +kernel
theorem dX7_arrive_63 : decode cX7_arrive 63 = .ok (.aload_n 0, 1) := by decide +kernel
theorem dX7_arrive_64 : decode cX7_arrive 64 = .ok (.dup, 1) := by decide +kernel
theorem dX7_arrive_65 : decode cX7_arrive 65 = .ok (.getfield 18, 3) := by decide +kernel
theorem dX7_arrive_68 : decode cX7_arrive 68 = .ok (.iconst 1, 1) := by decide +kernel
theorem dX7_arrive_69 : decode cX7_arrive 69 = .ok (.iadd, 1) := by decide +kernel
theorem dX7_arrive_70 : decode cX7_arrive 70 = .ok (.putfield 18, 3) := by decide +kernel
theorem dX7_arrive_73 : decode cX7_arrive 73 = .ok (.return_, 1) := by decide +kernel
theorem dX7_dropFirst_0 : decode cX7_dropFirst 0 = .ok (.aload_n 1, 1) := by decide +kernel
theorem dX7_dropFirst_1 : decode cX7_dropFirst 1 = .ok (.invokevirtual 134, 3) := by decide +kernel
theorem dX7_dropFirst_4 : decode cX7_dropFirst 4 = .ok (.aload_n 0, 1) := by decide +kernel
theorem dX7_dropFirst_5 : decode cX7_dropFirst 5 = .ok (.dup, 1) := by decide +kernel
theorem dX7_dropFirst_6 : decode cX7_dropFirst 6 = .ok (.getfield 24, 3) := by decide +kernel
theorem dX7_dropFirst_9 : decode cX7_dropFirst 9 = .ok (.iconst 1, 1) := by decide +kernel
theorem dX7_dropFirst_10 : decode cX7_dropFirst 10 = .ok (.iadd, 1) := by decide +kernel
theorem dX7_dropFirst_11 : decode cX7_dropFirst 11 = .ok (.putfield 24, 3) := by decide +kernel
theorem dX7_dropFirst_14 : decode cX7_dropFirst 14 = .ok (.return_, 1) := by decide +kernel
theorem dX7_draw_0 : decode cX7_draw 0 = .ok (.aload_n 0, 1) := by decide +kernel
theorem dX7_draw_1 : decode cX7_draw 1 = .ok (.bipush 109, 2) := by decide +kernel
theorem dX7_draw_3 : decode cX7_draw 3 = .ok (.aload_n 0, 1) := by decide +kernel
theorem dX7_draw_4 : decode cX7_draw 4 = .ok (.getfield 15, 3) := by decide +kernel
theorem dX7_draw_7 : decode cX7_draw 7 = .ok (.imul, 1) := by decide +kernel
theorem dX7_draw_8 : decode cX7_draw 8 = .ok (.bipush 57, 2) := by decide +kernel
theorem dX7_draw_10 : decode cX7_draw 10 = .ok (.iadd, 1) := by decide +kernel
theorem dX7_draw_11 : decode cX7_draw 11 = .ok (.sipush 512, 3) := by decide +kernel
theorem dX7_draw_14 : decode cX7_draw 14 = .ok (.irem, 1) := by decide +kernel
theorem dX7_draw_15 : decode cX7_draw 15 = .ok (.putfield 15, 3) := by decide +kernel
theorem dX7_draw_18 : decode cX7_draw 18 = .ok (.aload_n 0, 1) := by decide +kernel
theorem dX7_draw_19 : decode cX7_draw 19 = .ok (.getfield 15, 3) := by decide +kernel
theorem dX7_draw_22 : decode cX7_draw 22 = .ok (.iload_n 1, 1) := by decide +kernel
theorem dX7_draw_23 : decode cX7_draw 23 = .ok (.imul, 1) := by decide +kernel
theorem dX7_draw_24 : decode cX7_draw 24 = .ok (.sipush 512, 3) := by decide +kernel
theorem dX7_draw_27 : decode cX7_draw 27 = .ok (.idiv, 1) := by decide +kernel
theorem dX7_draw_28 : decode cX7_draw 28 = .ok (.ireturn, 1) := by decide +kernel
theorem dX8_init_0 : decode cX8_init 0 = .ok (.aload_n 0, 1) := by decide +kernel
theorem dX8_init_1 : decode cX8_init 1 = .ok (.invokespecial 1, 3) := by decide +kernel
theorem dX8_init_4 : decode cX8_init 4 = .ok (.aload_n 0, 1) := by decide +kernel
theorem dX8_init_5 : decode cX8_init 5 = .ok (.new 7, 3) := by decide +kernel
theorem dX8_init_8 : decode cX8_init 8 = .ok (.dup, 1) := by decide +kernel
theorem dX8_init_9 : decode cX8_init 9 = .ok (.invokespecial 9, 3) := by decide +kernel
theorem dX8_init_12 : decode cX8_init 12 = .ok (.putfield 10, 3) := by decide +kernel
theorem dX8_init_15 : decode cX8_init 15 = .ok (.aload_n 0, 1) := by decide +kernel
theorem dX8_init_16 : decode cX8_init 16 = .ok (.new 16, 3) := by decide +kernel
theorem dX8_init_19 : decode cX8_init 19 = .ok (.dup, 1) := by decide +kernel
theorem dX8_init_20 : decode cX8_init 20 = .ok (.aload_n 0, 1) := by decide +kernel
theorem dX8_init_21 : decode cX8_init 21 = .ok (.getfield 10, 3) := by decide +kernel
theorem dX8_init_24 : decode cX8_init 24 = .ok (.invokespecial 18, 3) := by decide +kernel
theorem dX8_init_27 : decode cX8_init 27 = .ok (.putfield 21, 3) := by decide +kernel
theorem dX8_init_30 : decode cX8_init 30 = .ok (.aload_n 0, 1) := by decide +kernel
theorem dX8_init_31 : decode cX8_init 31 = .ok (.new 25, 3) := by decide +kernel
theorem dX8_init_34 : decode cX8_init 34 = .ok (.dup, 1) := by decide +kernel
theorem dX8_init_35 : decode cX8_init 35 = .ok (.aload_n 0, 1) := by decide +kernel
theorem dX8_init_36 : decode cX8_init 36 = .ok (.getfield 10, 3) := by decide +kernel
theorem dX8_init_39 : decode cX8_init 39 = .ok (.aload_n 0, 1) := by decide +kernel
theorem dX8_init_40 : decode cX8_init 40 = .ok (.getfield 21, 3) := by decide +kernel
theorem dX8_init_43 : decode cX8_init 43 = .ok (.invokespecial 27, 3) := by decide +kernel
theorem dX8_init_46 : decode cX8_init 46 = .ok (.putfield 30, 3) := by decide +kernel
theorem dX8_init_49 : decode cX8_init 49 = .ok (.aload_n 0, 1) := by decide +kernel
theorem dX8_init_50 : decode cX8_init 50 = .ok (.new 34, 3) := by decide +kernel
theorem dX8_init_53 : decode cX8_init 53 = .ok (.dup, 1) := by decide +kernel
theorem dX8_init_54 : decode cX8_init 54 = .ok (.invokespecial 36, 3) := by decide +kernel
theorem dX8_init_57 : decode cX8_init 57 = .ok (.putfield 37, 3) := by decide +kernel
theorem dX8_init_60 : decode cX8_init 60 = .ok (.aload_n 0, 1) := by decide +kernel
theorem dX8_init_61 : decode cX8_init 61 = .ok (.iconst 0, 1) := by decide +kernel
theorem dX8_init_62 : decode cX8_init 62 = .ok (.putfield 41, 3) := by decide +kernel
theorem dX8_init_65 : decode cX8_init 65 = .ok (.return_, 1) := by decide +kernel
theorem dX8_node_0 : decode cX8_node 0 = .ok (.iload_n 1, 1) := by decide +kernel
theorem dX8_node_1 : decode cX8_node 1 = .ok (.iload_n 2, 1) := by decide +kernel
theorem dX8_node_2 : decode cX8_node 2 = .ok (.invokestatic 45, 3) := by decide +kernel
theorem dX8_node_5 : decode cX8_node 5 = .ok (.ifCond .eq 10, 3) := by decide +kernel
theorem dX8_node_8 : decode cX8_node 8 = .ok (.iload_n 3, 1) := by decide +kernel
theorem dX8_node_9 : decode cX8_node 9 = .ok (.invokestatic 49, 3) := by decide +kernel
theorem dX8_node_12 : decode cX8_node 12 = .ok (.ifCond .ne 13, 3) := by decide +kernel
theorem dX8_node_15 : decode cX8_node 15 = .ok (.new 53, 3) := by decide +kernel
theorem dX8_node_18 : decode cX8_node 18 = .ok (.dup, 1) := by decide +kernel
theorem dX8_node_19 : decode cX8_node 19 = .ok (.ldc 55, 2) := by decide +kernel
theorem dX8_node_21 : decode cX8_node 21 = .ok (.invokespecial 57, 3) := by decide +kernel
theorem dX8_node_24 : decode cX8_node 24 = .ok (.athrow, 1) := by decide +kernel
theorem dX8_node_25 : decode cX8_node 25 = .ok (.aload_n 0, 1) := by decide +kernel
theorem dX8_node_26 : decode cX8_node 26 = .ok (.getfield 10, 3) := by decide +kernel
theorem dX8_node_29 : decode cX8_node 29 = .ok (.getfield 60, 3) := by decide +kernel
theorem dX8_node_32 : decode cX8_node 32 = .ok (.bipush 8, 2) := by decide +kernel
theorem dX8_node_34 : decode cX8_node 34 = .ok (.if_icmp .lt 13, 3) := by decide +kernel
theorem dX8_node_37 : decode cX8_node 37 = .ok (.new 63, 3) := by decide +kernel
theorem dX8_node_40 : decode cX8_node 40 = .ok (.dup, 1) := by decide +kernel
theorem dX8_node_41 : decode cX8_node 41 = .ok (.ldc 65, 2) := by decide +kernel
theorem dX8_node_43 : decode cX8_node 43 = .ok (.invokespecial 67, 3) := by decide +kernel
theorem dX8_node_46 : decode cX8_node 46 = .ok (.athrow, 1) := by decide +kernel
theorem dX8_node_47 : decode cX8_node 47 = .ok (.aload_n 0, 1) := by decide +kernel
theorem dX8_node_48 : decode cX8_node 48 = .ok (.getfield 10, 3) := by decide +kernel
theorem dX8_node_51 : decode cX8_node 51 = .ok (.iload_n 1, 1) := by decide +kernel
theorem dX8_node_52 : decode cX8_node 52 = .ok (.iload_n 2, 1) := by decide +kernel
theorem dX8_node_53 : decode cX8_node 53 = .ok (.iload_n 3, 1) := by decide +kernel
theorem dX8_node_54 : decode cX8_node 54 = .ok (.iload 4, 2) := by decide +kernel
theorem dX8_node_56 : decode cX8_node 56 = .ok (.invokevirtual 68, 3) := by decide +kernel
theorem dX8_node_59 : decode cX8_node 59 = .ok (.ireturn, 1) := by decide +kernel
theorem dX8_move_0 : decode cX8_move 0 = .ok (.aload_n 0, 1) := by decide +kernel
theorem dX8_move_1 : decode cX8_move 1 = .ok (.iload_n 1, 1) := by decide +kernel
theorem dX8_move_2 : decode cX8_move 2 = .ok (.invokevirtual 72, 3) := by decide +kernel
theorem dX8_move_5 : decode cX8_move 5 = .ok (.iload_n 2, 1) := by decide +kernel
theorem dX8_move_6 : decode cX8_move 6 = .ok (.iload_n 3, 1) := by decide +kernel
theorem dX8_move_7 : decode cX8_move 7 = .ok (.invokestatic 45, 3) := by decide +kernel
theorem dX8_move_10 : decode cX8_move 10 = .ok (.ifCond .ne 13, 3) := by decide +kernel
theorem dX8_move_13 : decode cX8_move 13 = .ok (.new 53, 3) := by decide +kernel
theorem dX8_move_16 : decode cX8_move 16 = .ok (.dup, 1) := by decide +kernel
theorem dX8_move_17 : decode cX8_move 17 = .ok (.ldc 76, 2) := by decide +kernel
theorem dX8_move_19 : decode cX8_move 19 = .ok (.invokespecial 57, 3) := by decide +kernel
theorem dX8_move_22 : decode cX8_move 22 = .ok (.athrow, 1) := by decide +kernel
theorem dX8_move_23 : decode cX8_move 23 = .ok (.aload_n 0, 1) := by decide +kernel
theorem dX8_move_24 : decode cX8_move 24 = .ok (.iload_n 1, 1) := by decide +kernel
theorem dX8_move_25 : decode cX8_move 25 = .ok (.invokevirtual 78, 3) := by decide +kernel
theorem dX8_move_28 : decode cX8_move 28 = .ok (.aload_n 0, 1) := by decide +kernel
theorem dX8_move_29 : decode cX8_move 29 = .ok (.getfield 10, 3) := by decide +kernel
theorem dX8_move_32 : decode cX8_move 32 = .ok (.iload_n 1, 1) := by decide +kernel
theorem dX8_move_33 : decode cX8_move 33 = .ok (.iload_n 2, 1) := by decide +kernel
theorem dX8_move_34 : decode cX8_move 34 = .ok (.iload_n 3, 1) := by decide +kernel
theorem dX8_move_35 : decode cX8_move 35 = .ok (.invokevirtual 81, 3) := by decide +kernel
theorem dX8_move_38 : decode cX8_move 38 = .ok (.aload_n 0, 1) := by decide +kernel
theorem dX8_move_39 : decode cX8_move 39 = .ok (.getfield 10, 3) := by decide +kernel
theorem dX8_move_42 : decode cX8_move 42 = .ok (.iload_n 1, 1) := by decide +kernel
theorem dX8_move_43 : decode cX8_move 43 = .ok (.invokevirtual 85, 3) := by decide +kernel
theorem dX8_move_46 : decode cX8_move 46 = .ok (.invokestatic 89, 3) := by decide +kernel
theorem dX8_move_49 : decode cX8_move 49 = .ok (.ireturn, 1) := by decide +kernel
theorem dX8_tune_0 : decode cX8_tune 0 = .ok (.aload_n 0, 1) := by decide +kernel
theorem dX8_tune_1 : decode cX8_tune 1 = .ok (.iload_n 1, 1) := by decide +kernel
theorem dX8_tune_2 : decode cX8_tune 2 = .ok (.invokevirtual 72, 3) := by decide +kernel
theorem dX8_tune_5 : decode cX8_tune 5 = .ok (.iload_n 2, 1) := by decide +kernel
theorem dX8_tune_6 : decode cX8_tune 6 = .ok (.invokestatic 49, 3) := by decide +kernel
theorem dX8_tune_9 : decode cX8_tune 9 = .ok (.ifCond .ne 13, 3) := by decide +kernel
theorem dX8_tune_12 : decode cX8_tune 12 = .ok (.new 53, 3) := by decide +kernel
theorem dX8_tune_15 : decode cX8_tune 15 = .ok (.dup, 1) := by decide +kernel
theorem dX8_tune_16 : decode cX8_tune 16 = .ok (.ldc 94, 2) := by decide +kernel
theorem dX8_tune_18 : decode cX8_tune 18 = .ok (.invokespecial 57, 3) := by decide +kernel
theorem dX8_tune_21 : decode cX8_tune 21 = .ok (.athrow, 1) := by decide +kernel
theorem dX8_tune_22 : decode cX8_tune 22 = .ok (.aload_n 0, 1) := by decide +kernel
theorem dX8_tune_23 : decode cX8_tune 23 = .ok (.iload_n 1, 1) := by decide +kernel
theorem dX8_tune_24 : decode cX8_tune 24 = .ok (.invokevirtual 78, 3) := by decide +kernel
theorem dX8_tune_27 : decode cX8_tune 27 = .ok (.aload_n 0, 1) := by decide +kernel
theorem dX8_tune_28 : decode cX8_tune 28 = .ok (.getfield 10, 3) := by decide +kernel
theorem dX8_tune_31 : decode cX8_tune 31 = .ok (.getfield 96, 3) := by decide +kernel
theorem dX8_tune_34 : decode cX8_tune 34 = .ok (.iload_n 1, 1) := by decide +kernel
theorem dX8_tune_35 : decode cX8_tune 35 = .ok (.aaload, 1) := by decide +kernel
theorem dX8_tune_36 : decode cX8_tune 36 = .ok (.getfield 100, 3) := by decide +kernel
theorem dX8_tune_39 : decode cX8_tune 39 = .ok (.istore 4, 2) := by decide +kernel
theorem dX8_tune_41 : decode cX8_tune 41 = .ok (.aload_n 0, 1) := by decide +kernel
theorem dX8_tune_42 : decode cX8_tune 42 = .ok (.getfield 10, 3) := by decide +kernel
theorem dX8_tune_45 : decode cX8_tune 45 = .ok (.iload_n 1, 1) := by decide +kernel
theorem dX8_tune_46 : decode cX8_tune 46 = .ok (.iload_n 2, 1) := by decide +kernel
theorem dX8_tune_47 : decode cX8_tune 47 = .ok (.iload_n 3, 1) := by decide +kernel
theorem dX8_tune_48 : decode cX8_tune 48 = .ok (.invokevirtual 105, 3) := by decide +kernel
theorem dX8_tune_51 : decode cX8_tune 51 = .ok (.iload 4, 2) := by decide +kernel
theorem dX8_tune_53 : decode cX8_tune 53 = .ok (.ireturn, 1) := by decide +kernel
theorem dX8_send_0 : decode cX8_send 0 = .ok (.aload_n 0, 1) := by decide +kernel
theorem dX8_send_1 : decode cX8_send 1 = .ok (.iload_n 1, 1) := by decide +kernel
theorem dX8_send_2 : decode cX8_send 2 = .ok (.invokevirtual 72, 3) := by decide +kernel
theorem dX8_send_5 : decode cX8_send 5 = .ok (.aload_n 0, 1) := by decide +kernel
theorem dX8_send_6 : decode cX8_send 6 = .ok (.iload_n 2, 1) := by decide +kernel
theorem dX8_send_7 : decode cX8_send 7 = .ok (.invokevirtual 72, 3) := by decide +kernel
theorem dX8_send_10 : decode cX8_send 10 = .ok (.iload_n 1, 1) := by decide +kernel
theorem dX8_send_11 : decode cX8_send 11 = .ok (.iload_n 2, 1) := by decide +kernel
theorem dX8_send_12 : decode cX8_send 12 = .ok (.if_icmp .eq 12, 3) := by decide +kernel
theorem dX8_send_15 : decode cX8_send 15 = .ok (.iload_n 3, 1) := by decide +kernel
theorem dX8_send_16 : decode cX8_send 16 = .ok (.iconst 1, 1) := by decide +kernel
theorem dX8_send_17 : decode cX8_send 17 = .ok (.iconst 3, 1) := by decide +kernel
theorem dX8_send_18 : decode cX8_send 18 = .ok (.invokestatic 109, 3) := by decide +kernel
theorem dX8_send_21 : decode cX8_send 21 = .ok (.ifCond .ne 13, 3) := by decide +kernel
theorem dX8_send_24 : decode cX8_send 24 = .ok (.new 53, 3) := by decide +kernel
theorem dX8_send_27 : decode cX8_send 27 = .ok (.dup, 1) := by decide +kernel
theorem dX8_send_28 : decode cX8_send 28 = .ok (.ldc 113, 2) := by decide +kernel
theorem dX8_send_30 : decode cX8_send 30 = .ok (.invokespecial 57, 3) := by decide +kernel
theorem dX8_send_33 : decode cX8_send 33 = .ok (.athrow, 1) := by decide +kernel
theorem dX8_send_34 : decode cX8_send 34 = .ok (.aload_n 0, 1) := by decide +kernel
theorem dX8_send_35 : decode cX8_send 35 = .ok (.getfield 10, 3) := by decide +kernel
theorem dX8_send_38 : decode cX8_send 38 = .ok (.getfield 96, 3) := by decide +kernel
theorem dX8_send_41 : decode cX8_send 41 = .ok (.iload_n 1, 1) := by decide +kernel
theorem dX8_send_42 : decode cX8_send 42 = .ok (.aaload, 1) := by decide +kernel
theorem dX8_send_43 : decode cX8_send 43 = .ok (.astore 4, 2) := by decide +kernel
theorem dX8_send_45 : decode cX8_send 45 = .ok (.aload 4, 2) := by decide +kernel
theorem dX8_send_47 : decode cX8_send 47 = .ok (.getfield 115, 3) := by decide +kernel
theorem dX8_send_50 : decode cX8_send 50 = .ok (.istore 5, 2) := by decide +kernel
theorem dX8_send_52 : decode cX8_send 52 = .ok (.aload 4, 2) := by decide +kernel
theorem dX8_send_54 : decode cX8_send 54 = .ok (.getfield 118, 3) := by decide +kernel
theorem dX8_send_57 : decode cX8_send 57 = .ok (.iload_n 1, 1) := by decide +kernel
theorem dX8_send_58 : decode cX8_send 58 = .ok (.iload_n 2, 1) := by decide +kernel
theorem dX8_send_59 : decode cX8_send 59 = .ok (.iload_n 3, 1) := by decide +kernel
theorem dX8_send_60 : decode cX8_send 60 = .ok (.iload 5, 2) := by decide +kernel
theorem dX8_send_62 : decode cX8_send 62 = .ok (.iconst 0, 1) := by decide +kernel
theorem dX8_send_63 : decode cX8_send 63 = .ok (.invokevirtual 122, 3) := by decide +kernel
theorem dX8_send_66 : decode cX8_send 66 = .ok (.ifCond .ne 13, 3) := by decide +kernel
theorem dX8_send_69 : decode cX8_send 69 = .ok (.new 63, 3) := by decide +kernel
theorem dX8_send_72 : decode cX8_send 72 = .ok (.dup, 1) := by decide +kernel
theorem dX8_send_73 : decode cX8_send 73 = .ok (.ldc 127, 2) := by decide +kernel
theorem dX8_send_75 : decode cX8_send 75 = .ok (.invokespecial 67, 3) := by decide +kernel
theorem dX8_send_78 : decode cX8_send 78 = .ok (.athrow, 1) := by decide +kernel
theorem dX8_send_79 : decode cX8_send 79 = .ok (.aload 4, 2) := by decide +kernel
theorem dX8_send_81 : decode cX8_send 81 = .ok (.dup, 1) := by decide +kernel
theorem dX8_send_82 : decode cX8_send 82 = .ok (.getfield 115, 3) := by decide +kernel
theorem dX8_send_85 : decode cX8_send 85 = .ok (.iconst 1, 1) := by decide +kernel
theorem dX8_send_86 : decode cX8_send 86 = .ok (.iadd, 1) := by decide +kernel
theorem dX8_send_87 : decode cX8_send 87 = .ok (.putfield 115, 3) := by decide +kernel
theorem dX8_send_90 : decode cX8_send 90 = .ok (.iload 5, 2) := by decide +kernel
theorem dX8_send_92 : decode cX8_send 92 = .ok (.ireturn, 1) := by decide +kernel
theorem dX8_pass_0 : decode cX8_pass 0 = .ok (.iload_n 1, 1) := by decide +kernel
theorem dX8_pass_1 : decode cX8_pass 1 = .ok (.iconst 1, 1) := by decide +kernel
theorem dX8_pass_2 : decode cX8_pass 2 = .ok (.sipush 200, 3) := by decide +kernel
theorem dX8_pass_5 : decode cX8_pass 5 = .ok (.invokestatic 109, 3) := by decide +kernel
theorem dX8_pass_8 : decode cX8_pass 8 = .ok (.ifCond .ne 13, 3) := by decide +kernel
theorem dX8_pass_11 : decode cX8_pass 11 = .ok (.new 53, 3) := by decide +kernel
theorem dX8_pass_14 : decode cX8_pass 14 = .ok (.dup, 1) := by decide +kernel
theorem dX8_pass_15 : decode cX8_pass 15 = .ok (.ldc 129, 2) := by decide +kernel
theorem dX8_pass_17 : decode cX8_pass 17 = .ok (.invokespecial 57, 3) := by decide +kernel
theorem dX8_pass_20 : decode cX8_pass 20 = .ok (.athrow, 1) := by decide +kernel
theorem dX8_pass_21 : decode cX8_pass 21 = .ok (.aload_n 0, 1) := by decide +kernel
theorem dX8_pass_22 : decode cX8_pass 22 = .ok (.getfield 30, 3) := by decide +kernel
theorem dX8_pass_25 : decode cX8_pass 25 = .ok (.getfield 131, 3) := by decide +kernel
theorem dX8_pass_28 : decode cX8_pass 28 = .ok (.iload_n 1, 1) := by decide +kernel
theorem dX8_pass_29 : decode cX8_pass 29 = .ok (.iadd, 1) := by decide +kernel
theorem dX8_pass_30 : decode cX8_pass 30 = .ok (.sipush 2000, 3) := by decide +kernel
theorem dX8_pass_33 : decode cX8_pass 33 = .ok (.if_icmp .le 13, 3) := by decide +kernel
theorem dX8_pass_36 : decode cX8_pass 36 = .ok (.new 63, 3) := by decide +kernel
theorem dX8_pass_39 : decode cX8_pass 39 = .ok (.dup, 1) := by decide +kernel
theorem dX8_pass_40 : decode cX8_pass 40 = .ok (.ldc 134, 2) := by decide +kernel
theorem dX8_pass_42 : decode cX8_pass 42 = .ok (.invokespecial 67, 3) := by decide +kernel
theorem dX8_pass_45 : decode cX8_pass 45 = .ok (.athrow, 1) := by decide +kernel
theorem dX8_pass_46 : decode cX8_pass 46 = .ok (.iconst 0, 1) := by decide +kernel
theorem dX8_pass_47 : decode cX8_pass 47 = .ok (.istore_n 2, 1) := by decide +kernel
theorem dX8_pass_48 : decode cX8_pass 48 = .ok (.iload_n 2, 1) := by decide +kernel
theorem dX8_pass_49 : decode cX8_pass 49 = .ok (.iload_n 1, 1) := by decide +kernel
theorem dX8_pass_50 : decode cX8_pass 50 = .ok (.if_icmp .ge 16, 3) := by decide +kernel
theorem dX8_pass_53 : decode cX8_pass 53 = .ok (.aload_n 0, 1) := by decide +kernel
theorem dX8_pass_54 : decode cX8_pass 54 = .ok (.getfield 30, 3) := by decide +kernel
theorem dX8_pass_57 : decode cX8_pass 57 = .ok (.invokevirtual 136, 3) := by decide +kernel
theorem dX8_pass_60 : decode cX8_pass 60 = .ok (.iinc 2 1, 3) := by decide +kernel
theorem dX8_pass_63 : decode cX8_pass 63 = .ok (.goto (-15), 3) := by decide +kernel
theorem dX8_pass_66 : decode cX8_pass 66 = .ok (.aload_n 0, 1) := by decide +kernel
theorem dX8_pass_67 : decode cX8_pass 67 = .ok (.getfield 30, 3) := by decide +kernel
theorem dX8_pass_70 : decode cX8_pass 70 = .ok (.getfield 131, 3) := by decide +kernel
theorem dX8_pass_73 : decode cX8_pass 73 = .ok (.ireturn, 1) := by decide +kernel
theorem dX8_exchange_0 : decode cX8_exchange 0 = .ok (.iload_n 1, 1) := by decide +kernel
theorem dX8_exchange_1 : decode cX8_exchange 1 = .ok (.iconst 1, 1) := by decide +kernel
theorem dX8_exchange_2 : decode cX8_exchange 2 = .ok (.bipush 10, 2) := by decide +kernel
theorem dX8_exchange_4 : decode cX8_exchange 4 = .ok (.invokestatic 109, 3) := by decide +kernel
theorem dX8_exchange_7 : decode cX8_exchange 7 = .ok (.ifCond .ne 13, 3) := by decide +kernel
theorem dX8_exchange_10 : decode cX8_exchange 10 = .ok (.new 53, 3) := by decide +kernel
theorem dX8_exchange_13 : decode cX8_exchange 13 = .ok (.dup, 1) := by decide +kernel
theorem dX8_exchange_14 : decode cX8_exchange 14 = .ok (.ldc 139, 2) := by decide +kernel
theorem dX8_exchange_16 : decode cX8_exchange 16 = .ok (.invokespecial 57, 3) := by decide +kernel
theorem dX8_exchange_19 : decode cX8_exchange 19 = .ok (.athrow, 1) := by decide +kernel
theorem dX8_exchange_20 : decode cX8_exchange 20 = .ok (.iconst 0, 1) := by decide +kernel
theorem dX8_exchange_21 : decode cX8_exchange 21 = .ok (.istore_n 2, 1) := by decide +kernel
theorem dX8_exchange_22 : decode cX8_exchange 22 = .ok (.iload_n 2, 1) := by decide +kernel
theorem dX8_exchange_23 : decode cX8_exchange 23 = .ok (.iload_n 1, 1) := by decide +kernel
theorem dX8_exchange_24 : decode cX8_exchange 24 = .ok (.if_icmp .ge 16, 3) := by decide +kernel
theorem dX8_exchange_27 : decode cX8_exchange 27 = .ok (.aload_n 0, 1) := by decide +kernel
theorem dX8_exchange_28 : decode cX8_exchange 28 = .ok (.getfield 21, 3) := by decide +kernel
theorem dX8_exchange_31 : decode cX8_exchange 31 = .ok (.invokevirtual 141, 3) := by decide +kernel
theorem dX8_exchange_34 : decode cX8_exchange 34 = .ok (.iinc 2 1, 3) := by decide +kernel
theorem dX8_exchange_37 : decode cX8_exchange 37 = .ok (.goto (-15), 3) := by decide +kernel
theorem dX8_exchange_40 : decode cX8_exchange 40 = .ok (.aload_n 0, 1) := by decide +kernel
theorem dX8_exchange_41 : decode cX8_exchange 41 = .ok (.getfield 21, 3) := by decide +kernel
theorem dX8_exchange_44 : decode cX8_exchange 44 = .ok (.invokevirtual 144, 3) := by decide +kernel
theorem dX8_exchange_47 : decode cX8_exchange 47 = .ok (.ireturn, 1) := by decide +kernel
theorem dX8_bid_0 : decode cX8_bid 0 = .ok (.iload_n 1, 1) := by decide +kernel
theorem dX8_bid_1 : decode cX8_bid 1 = .ok (.iconst 0, 1) := by decide +kernel
theorem dX8_bid_2 : decode cX8_bid 2 = .ok (.iconst 4, 1) := by decide +kernel
theorem dX8_bid_3 : decode cX8_bid 3 = .ok (.invokestatic 109, 3) := by decide +kernel
theorem dX8_bid_6 : decode cX8_bid 6 = .ok (.ifCond .eq 24, 3) := by decide +kernel
theorem dX8_bid_9 : decode cX8_bid 9 = .ok (.iload_n 2, 1) := by decide +kernel
theorem dX8_bid_10 : decode cX8_bid 10 = .ok (.iconst 1, 1) := by decide +kernel
theorem dX8_bid_11 : decode cX8_bid 11 = .ok (.bipush 63, 2) := by decide +kernel
theorem dX8_bid_13 : decode cX8_bid 13 = .ok (.invokestatic 109, 3) := by decide +kernel
theorem dX8_bid_16 : decode cX8_bid 16 = .ok (.ifCond .eq 14, 3) := by decide +kernel
theorem dX8_bid_19 : decode cX8_bid 19 = .ok (.iload_n 3, 1) := by decide +kernel
theorem dX8_bid_20 : decode cX8_bid 20 = .ok (.iconst 1, 1) := by decide +kernel
theorem dX8_bid_21 : decode cX8_bid 21 = .ok (.sipush 999, 3) := by decide +kernel
theorem dX8_bid_24 : decode cX8_bid 24 = .ok (.invokestatic 109, 3) := by decide +kernel
theorem dX8_bid_27 : decode cX8_bid 27 = .ok (.ifCond .ne 13, 3) := by decide +kernel
theorem dX8_bid_30 : decode cX8_bid 30 = .ok (.new 53, 3) := by decide +kernel
theorem dX8_bid_33 : decode cX8_bid 33 = .ok (.dup, 1) := by decide +kernel
theorem dX8_bid_34 : decode cX8_bid 34 = .ok (.ldc 148, 2) := by decide +kernel
theorem dX8_bid_36 : decode cX8_bid 36 = .ok (.invokespecial 57, 3) := by decide +kernel
theorem dX8_bid_39 : decode cX8_bid 39 = .ok (.athrow, 1) := by decide +kernel
theorem dX8_bid_40 : decode cX8_bid 40 = .ok (.aload_n 0, 1) := by decide +kernel
theorem dX8_bid_41 : decode cX8_bid 41 = .ok (.getfield 37, 3) := by decide +kernel
theorem dX8_bid_44 : decode cX8_bid 44 = .ok (.getfield 150, 3) := by decide +kernel
theorem dX8_bid_47 : decode cX8_bid 47 = .ok (.bipush 10, 2) := by decide +kernel
theorem dX8_bid_49 : decode cX8_bid 49 = .ok (.if_icmp .lt 13, 3) := by decide +kernel
theorem dX8_bid_52 : decode cX8_bid 52 = .ok (.new 63, 3) := by decide +kernel
theorem dX8_bid_55 : decode cX8_bid 55 = .ok (.dup, 1) := by decide +kernel
theorem dX8_bid_56 : decode cX8_bid 56 = .ok (.ldc 151, 2) := by decide +kernel
theorem dX8_bid_58 : decode cX8_bid 58 = .ok (.invokespecial 67, 3) := by decide +kernel
theorem dX8_bid_61 : decode cX8_bid 61 = .ok (.athrow, 1) := by decide +kernel
theorem dX8_bid_62 : decode cX8_bid 62 = .ok (.aload_n 0, 1) := by decide +kernel
theorem dX8_bid_63 : decode cX8_bid 63 = .ok (.getfield 37, 3) := by decide +kernel
theorem dX8_bid_66 : decode cX8_bid 66 = .ok (.iload_n 1, 1) := by decide +kernel
theorem dX8_bid_67 : decode cX8_bid 67 = .ok (.iload_n 2, 1) := by decide +kernel
theorem dX8_bid_68 : decode cX8_bid 68 = .ok (.iload_n 3, 1) := by decide +kernel
theorem dX8_bid_69 : decode cX8_bid 69 = .ok (.invokevirtual 153, 3) := by decide +kernel
theorem dX8_bid_72 : decode cX8_bid 72 = .ok (.ireturn, 1) := by decide +kernel
theorem dX8_sell_0 : decode cX8_sell 0 = .ok (.aload_n 0, 1) := by decide +kernel
theorem dX8_sell_1 : decode cX8_sell 1 = .ok (.getfield 37, 3) := by decide +kernel
theorem dX8_sell_4 : decode cX8_sell 4 = .ok (.invokevirtual 156, 3) := by decide +kernel
theorem dX8_sell_7 : decode cX8_sell 7 = .ok (.ireturn, 1) := by decide +kernel
theorem dX8_knock_0 : decode cX8_knock 0 = .ok (.aload_n 0, 1) := by decide +kernel
theorem dX8_knock_1 : decode cX8_knock 1 = .ok (.dup, 1) := by decide +kernel
theorem dX8_knock_2 : decode cX8_knock 2 = .ok (.getfield 41, 3) := by decide +kernel
theorem dX8_knock_5 : decode cX8_knock 5 = .ok (.iconst 1, 1) := by decide +kernel
theorem dX8_knock_6 : decode cX8_knock 6 = .ok (.iadd, 1) := by decide +kernel
theorem dX8_knock_7 : decode cX8_knock 7 = .ok (.putfield 41, 3) := by decide +kernel
theorem dX8_knock_10 : decode cX8_knock 10 = .ok (.aload_n 0, 1) := by decide +kernel
theorem dX8_knock_11 : decode cX8_knock 11 = .ok (.getfield 41, 3) := by decide +kernel
theorem dX8_knock_14 : decode cX8_knock 14 = .ok (.ireturn, 1) := by decide +kernel
theorem dX8_hears_0 : decode cX8_hears 0 = .ok (.aload_n 0, 1) := by decide +kernel
theorem dX8_hears_1 : decode cX8_hears 1 = .ok (.iload_n 1, 1) := by decide +kernel
theorem dX8_hears_2 : decode cX8_hears 2 = .ok (.iload_n 2, 1) := by decide +kernel
theorem dX8_hears_3 : decode cX8_hears 3 = .ok (.invokevirtual 159, 3) := by decide +kernel
theorem dX8_hears_6 : decode cX8_hears 6 = .ok (.aload_n 0, 1) := by decide +kernel
theorem dX8_hears_7 : decode cX8_hears 7 = .ok (.getfield 10, 3) := by decide +kernel
theorem dX8_hears_10 : decode cX8_hears 10 = .ok (.iload_n 1, 1) := by decide +kernel
theorem dX8_hears_11 : decode cX8_hears 11 = .ok (.iload_n 2, 1) := by decide +kernel
theorem dX8_hears_12 : decode cX8_hears 12 = .ok (.invokevirtual 163, 3) := by decide +kernel
theorem dX8_hears_15 : decode cX8_hears 15 = .ok (.ireturn, 1) := by decide +kernel
theorem dX8_ofNode_0 : decode cX8_ofNode 0 = .ok (.aload_n 0, 1) := by decide +kernel
theorem dX8_ofNode_1 : decode cX8_ofNode 1 = .ok (.iload_n 1, 1) := by decide +kernel
theorem dX8_ofNode_2 : decode cX8_ofNode 2 = .ok (.invokevirtual 72, 3) := by decide +kernel
theorem dX8_ofNode_5 : decode cX8_ofNode 5 = .ok (.aload_n 0, 1) := by decide +kernel
theorem dX8_ofNode_6 : decode cX8_ofNode 6 = .ok (.getfield 10, 3) := by decide +kernel
theorem dX8_ofNode_9 : decode cX8_ofNode 9 = .ok (.getfield 96, 3) := by decide +kernel
theorem dX8_ofNode_12 : decode cX8_ofNode 12 = .ok (.iload_n 1, 1) := by decide +kernel
theorem dX8_ofNode_13 : decode cX8_ofNode 13 = .ok (.aaload, 1) := by decide +kernel
theorem dX8_ofNode_14 : decode cX8_ofNode 14 = .ok (.astore_n 3, 1) := by decide +kernel
theorem dX8_ofNode_15 : decode cX8_ofNode 15 = .ok (.iload_n 2, 1) := by decide +kernel
theorem dX8_ofNode_16 : decode cX8_ofNode 16 = .ok (.tableswitch 187 0 15 #[80, 85, 90, 95, 108, 116, 121, 126, 131, 136, 141, 146, 151, 156, 173, 182], 80) := by decide +kernel
theorem dX8_ofNode_96 : decode cX8_ofNode 96 = .ok (.aload_n 3, 1) := by decide +kernel
theorem dX8_ofNode_97 : decode cX8_ofNode 97 = .ok (.getfield 166, 3) := by decide +kernel
theorem dX8_ofNode_100 : decode cX8_ofNode 100 = .ok (.ireturn, 1) := by decide +kernel
theorem dX8_ofNode_101 : decode cX8_ofNode 101 = .ok (.aload_n 3, 1) := by decide +kernel
theorem dX8_ofNode_102 : decode cX8_ofNode 102 = .ok (.getfield 169, 3) := by decide +kernel
theorem dX8_ofNode_105 : decode cX8_ofNode 105 = .ok (.ireturn, 1) := by decide +kernel
theorem dX8_ofNode_106 : decode cX8_ofNode 106 = .ok (.aload_n 3, 1) := by decide +kernel
theorem dX8_ofNode_107 : decode cX8_ofNode 107 = .ok (.getfield 100, 3) := by decide +kernel
theorem dX8_ofNode_110 : decode cX8_ofNode 110 = .ok (.ireturn, 1) := by decide +kernel
theorem dX8_ofNode_111 : decode cX8_ofNode 111 = .ok (.aload_n 3, 1) := by decide +kernel
theorem dX8_ofNode_112 : decode cX8_ofNode 112 = .ok (.getfield 172, 3) := by decide +kernel
theorem dX8_ofNode_115 : decode cX8_ofNode 115 = .ok (.ifCond .eq 7, 3) := by decide +kernel
theorem dX8_ofNode_118 : decode cX8_ofNode 118 = .ok (.iconst 1, 1) := by decide +kernel
theorem dX8_ofNode_119 : decode cX8_ofNode 119 = .ok (.goto 4, 3) := by decide +kernel
theorem dX8_ofNode_122 : decode cX8_ofNode 122 = .ok (.iconst 0, 1) := by decide +kernel
theorem dX8_ofNode_123 : decode cX8_ofNode 123 = .ok (.ireturn, 1) := by decide +kernel
theorem dX8_ofNode_124 : decode cX8_ofNode 124 = .ok (.aload_n 3, 1) := by decide +kernel
theorem dX8_ofNode_125 : decode cX8_ofNode 125 = .ok (.getfield 118, 3) := by decide +kernel
theorem dX8_ofNode_128 : decode cX8_ofNode 128 = .ok (.getfield 176, 3) := by decide +kernel
theorem dX8_ofNode_131 : decode cX8_ofNode 131 = .ok (.ireturn, 1) := by decide +kernel
theorem dX8_ofNode_132 : decode cX8_ofNode 132 = .ok (.aload_n 3, 1) := by decide +kernel
theorem dX8_ofNode_133 : decode cX8_ofNode 133 = .ok (.getfield 179, 3) := by decide +kernel
theorem dX8_ofNode_136 : decode cX8_ofNode 136 = .ok (.ireturn, 1) := by decide +kernel
theorem dX8_ofNode_137 : decode cX8_ofNode 137 = .ok (.aload_n 3, 1) := by decide +kernel
theorem dX8_ofNode_138 : decode cX8_ofNode 138 = .ok (.getfield 182, 3) := by decide +kernel
theorem dX8_ofNode_141 : decode cX8_ofNode 141 = .ok (.ireturn, 1) := by decide +kernel
theorem dX8_ofNode_142 : decode cX8_ofNode 142 = .ok (.aload_n 3, 1) := by decide +kernel
theorem dX8_ofNode_143 : decode cX8_ofNode 143 = .ok (.getfield 185, 3) := by decide +kernel
theorem dX8_ofNode_146 : decode cX8_ofNode 146 = .ok (.ireturn, 1) := by decide +kernel
theorem dX8_ofNode_147 : decode cX8_ofNode 147 = .ok (.aload_n 3, 1) := by decide +kernel
theorem dX8_ofNode_148 : decode cX8_ofNode 148 = .ok (.getfield 188, 3) := by decide +kernel
theorem dX8_ofNode_151 : decode cX8_ofNode 151 = .ok (.ireturn, 1) := by decide +kernel
theorem dX8_ofNode_152 : decode cX8_ofNode 152 = .ok (.aload_n 3, 1) := by decide +kernel
theorem dX8_ofNode_153 : decode cX8_ofNode 153 = .ok (.getfield 191, 3) := by decide +kernel
theorem dX8_ofNode_156 : decode cX8_ofNode 156 = .ok (.ireturn, 1) := by decide +kernel
theorem dX8_ofNode_157 : decode cX8_ofNode 157 = .ok (.aload_n 3, 1) := by decide +kernel
theorem dX8_ofNode_158 : decode cX8_ofNode 158 = .ok (.getfield 194, 3) := by decide +kernel
theorem dX8_ofNode_161 : decode cX8_ofNode 161 = .ok (.ireturn, 1) := by decide +kernel
theorem dX8_ofNode_162 : decode cX8_ofNode 162 = .ok (.aload_n 3, 1) := by decide +kernel
theorem dX8_ofNode_163 : decode cX8_ofNode 163 = .ok (.getfield 197, 3) := by decide +kernel
theorem dX8_ofNode_166 : decode cX8_ofNode 166 = .ok (.ireturn, 1) := by decide +kernel
theorem dX8_ofNode_167 : decode cX8_ofNode 167 = .ok (.aload_n 3, 1) := by decide +kernel
theorem dX8_ofNode_168 : decode cX8_ofNode 168 = .ok (.getfield 200, 3) := by decide +kernel
theorem dX8_ofNode_171 : decode cX8_ofNode 171 = .ok (.ireturn, 1) := by decide +kernel
theorem dX8_ofNode_172 : decode cX8_ofNode 172 = .ok (.aload_n 0, 1) := by decide +kernel
theorem dX8_ofNode_173 : decode cX8_ofNode 173 = .ok (.getfield 10, 3) := by decide +kernel
theorem dX8_ofNode_176 : decode cX8_ofNode 176 = .ok (.iload_n 1, 1) := by decide +kernel
theorem dX8_ofNode_177 : decode cX8_ofNode 177 = .ok (.invokevirtual 203, 3) := by decide +kernel
theorem dX8_ofNode_180 : decode cX8_ofNode 180 = .ok (.ifCond .eq 7, 3) := by decide +kernel
theorem dX8_ofNode_183 : decode cX8_ofNode 183 = .ok (.iconst 1, 1) := by decide +kernel
theorem dX8_ofNode_184 : decode cX8_ofNode 184 = .ok (.goto 4, 3) := by decide +kernel
theorem dX8_ofNode_187 : decode cX8_ofNode 187 = .ok (.iconst 0, 1) := by decide +kernel
theorem dX8_ofNode_188 : decode cX8_ofNode 188 = .ok (.ireturn, 1) := by decide +kernel
theorem dX8_ofNode_189 : decode cX8_ofNode 189 = .ok (.aload_n 0, 1) := by decide +kernel
theorem dX8_ofNode_190 : decode cX8_ofNode 190 = .ok (.getfield 10, 3) := by decide +kernel
theorem dX8_ofNode_193 : decode cX8_ofNode 193 = .ok (.iload_n 1, 1) := by decide +kernel
theorem dX8_ofNode_194 : decode cX8_ofNode 194 = .ok (.invokevirtual 85, 3) := by decide +kernel
theorem dX8_ofNode_197 : decode cX8_ofNode 197 = .ok (.ireturn, 1) := by decide +kernel
theorem dX8_ofNode_198 : decode cX8_ofNode 198 = .ok (.aload_n 3, 1) := by decide +kernel
theorem dX8_ofNode_199 : decode cX8_ofNode 199 = .ok (.getfield 115, 3) := by decide +kernel
theorem dX8_ofNode_202 : decode cX8_ofNode 202 = .ok (.ireturn, 1) := by decide +kernel
theorem dX8_ofNode_203 : decode cX8_ofNode 203 = .ok (.new 53, 3) := by decide +kernel
theorem dX8_ofNode_206 : decode cX8_ofNode 206 = .ok (.dup, 1) := by decide +kernel
theorem dX8_ofNode_207 : decode cX8_ofNode 207 = .ok (.ldc 206, 2) := by decide +kernel
theorem dX8_ofNode_209 : decode cX8_ofNode 209 = .ok (.invokespecial 57, 3) := by decide +kernel
theorem dX8_ofNode_212 : decode cX8_ofNode 212 = .ok (.athrow, 1) := by decide +kernel
theorem dX8_inQueue_0 : decode cX8_inQueue 0 = .ok (.aload_n 0, 1) := by decide +kernel
theorem dX8_inQueue_1 : decode cX8_inQueue 1 = .ok (.iload_n 1, 1) := by decide +kernel
theorem dX8_inQueue_2 : decode cX8_inQueue 2 = .ok (.invokevirtual 72, 3) := by decide +kernel
theorem dX8_inQueue_5 : decode cX8_inQueue 5 = .ok (.iload_n 2, 1) := by decide +kernel
theorem dX8_inQueue_6 : decode cX8_inQueue 6 = .ok (.ifCond .lt 12, 3) := by decide +kernel
theorem dX8_inQueue_9 : decode cX8_inQueue 9 = .ok (.iload_n 3, 1) := by decide +kernel
theorem dX8_inQueue_10 : decode cX8_inQueue 10 = .ok (.iconst 0, 1) := by decide +kernel
theorem dX8_inQueue_11 : decode cX8_inQueue 11 = .ok (.iconst 4, 1) := by decide +kernel
theorem dX8_inQueue_12 : decode cX8_inQueue 12 = .ok (.invokestatic 109, 3) := by decide +kernel
theorem dX8_inQueue_15 : decode cX8_inQueue 15 = .ok (.ifCond .ne 13, 3) := by decide +kernel
theorem dX8_inQueue_18 : decode cX8_inQueue 18 = .ok (.new 53, 3) := by decide +kernel
theorem dX8_inQueue_21 : decode cX8_inQueue 21 = .ok (.dup, 1) := by decide +kernel
theorem dX8_inQueue_22 : decode cX8_inQueue 22 = .ok (.ldc 208, 2) := by decide +kernel
theorem dX8_inQueue_24 : decode cX8_inQueue 24 = .ok (.invokespecial 57, 3) := by decide +kernel
theorem dX8_inQueue_27 : decode cX8_inQueue 27 = .ok (.athrow, 1) := by decide +kernel
theorem dX8_inQueue_28 : decode cX8_inQueue 28 = .ok (.aload_n 0, 1) := by decide +kernel
theorem dX8_inQueue_29 : decode cX8_inQueue 29 = .ok (.getfield 10, 3) := by decide +kernel
theorem dX8_inQueue_32 : decode cX8_inQueue 32 = .ok (.getfield 96, 3) := by decide +kernel
theorem dX8_inQueue_35 : decode cX8_inQueue 35 = .ok (.iload_n 1, 1) := by decide +kernel
theorem dX8_inQueue_36 : decode cX8_inQueue 36 = .ok (.aaload, 1) := by decide +kernel
theorem dX8_inQueue_37 : decode cX8_inQueue 37 = .ok (.getfield 118, 3) := by decide +kernel
theorem dX8_inQueue_40 : decode cX8_inQueue 40 = .ok (.iload_n 2, 1) := by decide +kernel
theorem dX8_inQueue_41 : decode cX8_inQueue 41 = .ok (.invokevirtual 210, 3) := by decide +kernel
theorem dX8_inQueue_44 : decode cX8_inQueue 44 = .ok (.astore 4, 2) := by decide +kernel
theorem dX8_inQueue_46 : decode cX8_inQueue 46 = .ok (.aload 4, 2) := by decide +kernel
theorem dX8_inQueue_48 : decode cX8_inQueue 48 = .ok (.ifnonnull 5, 3) := by decide +kernel
theorem dX8_inQueue_51 : decode cX8_inQueue 51 = .ok (.iconst (-1), 1) := by decide +kernel
theorem dX8_inQueue_52 : decode cX8_inQueue 52 = .ok (.ireturn, 1) := by decide +kernel
theorem dX8_inQueue_53 : decode cX8_inQueue 53 = .ok (.iload_n 3, 1) := by decide +kernel
theorem dX8_inQueue_54 : decode cX8_inQueue 54 = .ok (.tableswitch 54 0 3 #[30, 36, 42, 48], 30) := by decide +kernel
theorem dX8_inQueue_84 : decode cX8_inQueue 84 = .ok (.aload 4, 2) := by decide +kernel
theorem dX8_inQueue_86 : decode cX8_inQueue 86 = .ok (.getfield 214, 3) := by decide +kernel
theorem dX8_inQueue_89 : decode cX8_inQueue 89 = .ok (.ireturn, 1) := by decide +kernel
theorem dX8_inQueue_90 : decode cX8_inQueue 90 = .ok (.aload 4, 2) := by decide +kernel
theorem dX8_inQueue_92 : decode cX8_inQueue 92 = .ok (.getfield 219, 3) := by decide +kernel
theorem dX8_inQueue_95 : decode cX8_inQueue 95 = .ok (.ireturn, 1) := by decide +kernel
theorem dX8_inQueue_96 : decode cX8_inQueue 96 = .ok (.aload 4, 2) := by decide +kernel
theorem dX8_inQueue_98 : decode cX8_inQueue 98 = .ok (.getfield 222, 3) := by decide +kernel
theorem dX8_inQueue_101 : decode cX8_inQueue 101 = .ok (.ireturn, 1) := by decide +kernel
theorem dX8_inQueue_102 : decode cX8_inQueue 102 = .ok (.aload 4, 2) := by decide +kernel
theorem dX8_inQueue_104 : decode cX8_inQueue 104 = .ok (.getfield 225, 3) := by decide +kernel
theorem dX8_inQueue_107 : decode cX8_inQueue 107 = .ok (.ireturn, 1) := by decide +kernel
theorem dX8_inQueue_108 : decode cX8_inQueue 108 = .ok (.aload 4, 2) := by decide +kernel
theorem dX8_inQueue_110 : decode cX8_inQueue 110 = .ok (.getfield 228, 3) := by decide +kernel
theorem dX8_inQueue_113 : decode cX8_inQueue 113 = .ok (.ireturn, 1) := by decide +kernel
theorem dX8_route_0 : decode cX8_route 0 = .ok (.aload_n 0, 1) := by decide +kernel
theorem dX8_route_1 : decode cX8_route 1 = .ok (.iload_n 1, 1) := by decide +kernel
theorem dX8_route_2 : decode cX8_route 2 = .ok (.iload_n 2, 1) := by decide +kernel
theorem dX8_route_3 : decode cX8_route 3 = .ok (.invokevirtual 159, 3) := by decide +kernel
theorem dX8_route_6 : decode cX8_route 6 = .ok (.iload_n 3, 1) := by decide +kernel
theorem dX8_route_7 : decode cX8_route 7 = .ok (.tableswitch 77 0 3 #[29, 39, 49, 59], 29) := by decide +kernel
theorem dX8_route_36 : decode cX8_route 36 = .ok (.aload_n 0, 1) := by decide +kernel
theorem dX8_route_37 : decode cX8_route 37 = .ok (.getfield 21, 3) := by decide +kernel
theorem dX8_route_40 : decode cX8_route 40 = .ok (.iload_n 1, 1) := by decide +kernel
theorem dX8_route_41 : decode cX8_route 41 = .ok (.iload_n 2, 1) := by decide +kernel
theorem dX8_route_42 : decode cX8_route 42 = .ok (.invokevirtual 231, 3) := by decide +kernel
theorem dX8_route_45 : decode cX8_route 45 = .ok (.ireturn, 1) := by decide +kernel
theorem dX8_route_46 : decode cX8_route 46 = .ok (.aload_n 0, 1) := by decide +kernel
theorem dX8_route_47 : decode cX8_route 47 = .ok (.getfield 21, 3) := by decide +kernel
theorem dX8_route_50 : decode cX8_route 50 = .ok (.iload_n 1, 1) := by decide +kernel
theorem dX8_route_51 : decode cX8_route 51 = .ok (.iload_n 2, 1) := by decide +kernel
theorem dX8_route_52 : decode cX8_route 52 = .ok (.invokevirtual 235, 3) := by decide +kernel
theorem dX8_route_55 : decode cX8_route 55 = .ok (.ireturn, 1) := by decide +kernel
theorem dX8_route_56 : decode cX8_route 56 = .ok (.aload_n 0, 1) := by decide +kernel
theorem dX8_route_57 : decode cX8_route 57 = .ok (.getfield 21, 3) := by decide +kernel
theorem dX8_route_60 : decode cX8_route 60 = .ok (.iload_n 1, 1) := by decide +kernel
theorem dX8_route_61 : decode cX8_route 61 = .ok (.iload_n 2, 1) := by decide +kernel
theorem dX8_route_62 : decode cX8_route 62 = .ok (.invokevirtual 238, 3) := by decide +kernel
theorem dX8_route_65 : decode cX8_route 65 = .ok (.ireturn, 1) := by decide +kernel
theorem dX8_route_66 : decode cX8_route 66 = .ok (.aload_n 0, 1) := by decide +kernel
theorem dX8_route_67 : decode cX8_route 67 = .ok (.getfield 21, 3) := by decide +kernel
theorem dX8_route_70 : decode cX8_route 70 = .ok (.iload_n 1, 1) := by decide +kernel
theorem dX8_route_71 : decode cX8_route 71 = .ok (.iload_n 2, 1) := by decide +kernel
theorem dX8_route_72 : decode cX8_route 72 = .ok (.invokevirtual 241, 3) := by decide +kernel
theorem dX8_route_75 : decode cX8_route 75 = .ok (.ifCond .eq 7, 3) := by decide +kernel
theorem dX8_route_78 : decode cX8_route 78 = .ok (.iconst 1, 1) := by decide +kernel
theorem dX8_route_79 : decode cX8_route 79 = .ok (.goto 4, 3) := by decide +kernel
theorem dX8_route_82 : decode cX8_route 82 = .ok (.iconst 0, 1) := by decide +kernel
theorem dX8_route_83 : decode cX8_route 83 = .ok (.ireturn, 1) := by decide +kernel
theorem dX8_route_84 : decode cX8_route 84 = .ok (.new 53, 3) := by decide +kernel
theorem dX8_route_87 : decode cX8_route 87 = .ok (.dup, 1) := by decide +kernel
theorem dX8_route_88 : decode cX8_route 88 = .ok (.ldc 244, 2) := by decide +kernel
theorem dX8_route_90 : decode cX8_route 90 = .ok (.invokespecial 57, 3) := by decide +kernel
theorem dX8_route_93 : decode cX8_route 93 = .ok (.athrow, 1) := by decide +kernel
theorem dX8_air_0 : decode cX8_air 0 = .ok (.iload_n 1, 1) := by decide +kernel
theorem dX8_air_1 : decode cX8_air 1 = .ok (.tableswitch 171 0 12 #[67, 75, 83, 91, 102, 110, 118, 126, 134, 142, 150, 158, 163], 67) := by decide +kernel
theorem dX8_air_68 : decode cX8_air 68 = .ok (.aload_n 0, 1) := by decide +kernel
theorem dX8_air_69 : decode cX8_air 69 = .ok (.getfield 30, 3) := by decide +kernel
theorem dX8_air_72 : decode cX8_air 72 = .ok (.getfield 131, 3) := by decide +kernel
theorem dX8_air_75 : decode cX8_air 75 = .ok (.ireturn, 1) := by decide +kernel
theorem dX8_air_76 : decode cX8_air 76 = .ok (.aload_n 0, 1) := by decide +kernel
theorem dX8_air_77 : decode cX8_air 77 = .ok (.getfield 10, 3) := by decide +kernel
theorem dX8_air_80 : decode cX8_air 80 = .ok (.getfield 60, 3) := by decide +kernel
theorem dX8_air_83 : decode cX8_air 83 = .ok (.ireturn, 1) := by decide +kernel
theorem dX8_air_84 : decode cX8_air 84 = .ok (.aload_n 0, 1) := by decide +kernel
theorem dX8_air_85 : decode cX8_air 85 = .ok (.getfield 30, 3) := by decide +kernel
theorem dX8_air_88 : decode cX8_air 88 = .ok (.getfield 246, 3) := by decide +kernel
theorem dX8_air_91 : decode cX8_air 91 = .ok (.ireturn, 1) := by decide +kernel
theorem dX8_air_92 : decode cX8_air 92 = .ok (.aload_n 0, 1) := by decide +kernel
theorem dX8_air_93 : decode cX8_air 93 = .ok (.getfield 30, 3) := by decide +kernel
theorem dX8_air_96 : decode cX8_air 96 = .ok (.invokevirtual 249, 3) := by decide +kernel
theorem dX8_air_99 : decode cX8_air 99 = .ok (.invokestatic 89, 3) := by decide +kernel
theorem dX8_air_102 : decode cX8_air 102 = .ok (.ireturn, 1) := by decide +kernel
theorem dX8_air_103 : decode cX8_air 103 = .ok (.aload_n 0, 1) := by decide +kernel
theorem dX8_air_104 : decode cX8_air 104 = .ok (.getfield 30, 3) := by decide +kernel
theorem dX8_air_107 : decode cX8_air 107 = .ok (.getfield 252, 3) := by decide +kernel
theorem dX8_air_110 : decode cX8_air 110 = .ok (.ireturn, 1) := by decide +kernel
theorem dX8_air_111 : decode cX8_air 111 = .ok (.aload_n 0, 1) := by decide +kernel
theorem dX8_air_112 : decode cX8_air 112 = .ok (.getfield 30, 3) := by decide +kernel
theorem dX8_air_115 : decode cX8_air 115 = .ok (.getfield 255, 3) := by decide +kernel
theorem dX8_air_118 : decode cX8_air 118 = .ok (.ireturn, 1) := by decide +kernel
theorem dX8_air_119 : decode cX8_air 119 = .ok (.aload_n 0, 1) := by decide +kernel
theorem dX8_air_120 : decode cX8_air 120 = .ok (.getfield 30, 3) := by decide +kernel
theorem dX8_air_123 : decode cX8_air 123 = .ok (.getfield 258, 3) := by decide +kernel
theorem dX8_air_126 : decode cX8_air 126 = .ok (.ireturn, 1) := by decide +kernel
theorem dX8_air_127 : decode cX8_air 127 = .ok (.aload_n 0, 1) := by decide +kernel
theorem dX8_air_128 : decode cX8_air 128 = .ok (.getfield 10, 3) := by decide +kernel
theorem dX8_air_131 : decode cX8_air 131 = .ok (.invokevirtual 261, 3) := by decide +kernel
theorem dX8_air_134 : decode cX8_air 134 = .ok (.ireturn, 1) := by decide +kernel
theorem dX8_air_135 : decode cX8_air 135 = .ok (.aload_n 0, 1) := by decide +kernel
theorem dX8_air_136 : decode cX8_air 136 = .ok (.getfield 21, 3) := by decide +kernel
theorem dX8_air_139 : decode cX8_air 139 = .ok (.getfield 264, 3) := by decide +kernel
theorem dX8_air_142 : decode cX8_air 142 = .ok (.ireturn, 1) := by decide +kernel
theorem dX8_air_143 : decode cX8_air 143 = .ok (.aload_n 0, 1) := by decide +kernel
theorem dX8_air_144 : decode cX8_air 144 = .ok (.getfield 37, 3) := by decide +kernel
theorem dX8_air_147 : decode cX8_air 147 = .ok (.getfield 150, 3) := by decide +kernel
theorem dX8_air_150 : decode cX8_air 150 = .ok (.ireturn, 1) := by decide +kernel
theorem dX8_air_151 : decode cX8_air 151 = .ok (.aload_n 0, 1) := by decide +kernel
theorem dX8_air_152 : decode cX8_air 152 = .ok (.getfield 37, 3) := by decide +kernel
theorem dX8_air_155 : decode cX8_air 155 = .ok (.getfield 267, 3) := by decide +kernel
theorem dX8_air_158 : decode cX8_air 158 = .ok (.ireturn, 1) := by decide +kernel
theorem dX8_air_159 : decode cX8_air 159 = .ok (.aload_n 0, 1) := by decide +kernel
theorem dX8_air_160 : decode cX8_air 160 = .ok (.getfield 41, 3) := by decide +kernel
theorem dX8_air_163 : decode cX8_air 163 = .ok (.ireturn, 1) := by decide +kernel
theorem dX8_air_164 : decode cX8_air 164 = .ok (.aload_n 0, 1) := by decide +kernel
theorem dX8_air_165 : decode cX8_air 165 = .ok (.getfield 21, 3) := by decide +kernel
theorem dX8_air_168 : decode cX8_air 168 = .ok (.invokevirtual 270, 3) := by decide +kernel
theorem dX8_air_171 : decode cX8_air 171 = .ok (.ireturn, 1) := by decide +kernel
theorem dX8_air_172 : decode cX8_air 172 = .ok (.new 53, 3) := by decide +kernel
theorem dX8_air_175 : decode cX8_air 175 = .ok (.dup, 1) := by decide +kernel
theorem dX8_air_176 : decode cX8_air 176 = .ok (.ldc_w 273, 3) := by decide +kernel
theorem dX8_air_179 : decode cX8_air 179 = .ok (.invokespecial 57, 3) := by decide +kernel
theorem dX8_air_182 : decode cX8_air 182 = .ok (.athrow, 1) := by decide +kernel
theorem dX8_delivered_0 : decode cX8_delivered 0 = .ok (.aload_n 0, 1) := by decide +kernel
theorem dX8_delivered_1 : decode cX8_delivered 1 = .ok (.iload_n 1, 1) := by decide +kernel
theorem dX8_delivered_2 : decode cX8_delivered 2 = .ok (.invokevirtual 72, 3) := by decide +kernel
theorem dX8_delivered_5 : decode cX8_delivered 5 = .ok (.aload_n 0, 1) := by decide +kernel
theorem dX8_delivered_6 : decode cX8_delivered 6 = .ok (.getfield 10, 3) := by decide +kernel
theorem dX8_delivered_9 : decode cX8_delivered 9 = .ok (.getfield 96, 3) := by decide +kernel
theorem dX8_delivered_12 : decode cX8_delivered 12 = .ok (.iload_n 1, 1) := by decide +kernel
theorem dX8_delivered_13 : decode cX8_delivered 13 = .ok (.aaload, 1) := by decide +kernel
theorem dX8_delivered_14 : decode cX8_delivered 14 = .ok (.astore_n 3, 1) := by decide +kernel
theorem dX8_delivered_15 : decode cX8_delivered 15 = .ok (.iload_n 2, 1) := by decide +kernel
theorem dX8_delivered_16 : decode cX8_delivered 16 = .ok (.ifCond .lt 11, 3) := by decide +kernel
theorem dX8_delivered_19 : decode cX8_delivered 19 = .ok (.iload_n 2, 1) := by decide +kernel
theorem dX8_delivered_20 : decode cX8_delivered 20 = .ok (.aload_n 3, 1) := by decide +kernel
theorem dX8_delivered_21 : decode cX8_delivered 21 = .ok (.getfield 115, 3) := by decide +kernel
theorem dX8_delivered_24 : decode cX8_delivered 24 = .ok (.if_icmp .lt 14, 3) := by decide +kernel
theorem dX8_delivered_27 : decode cX8_delivered 27 = .ok (.new 275, 3) := by decide +kernel
theorem dX8_delivered_30 : decode cX8_delivered 30 = .ok (.dup, 1) := by decide +kernel
theorem dX8_delivered_31 : decode cX8_delivered 31 = .ok (.ldc_w 277, 3) := by decide +kernel
theorem dX8_delivered_34 : decode cX8_delivered 34 = .ok (.invokespecial 279, 3) := by decide +kernel
theorem dX8_delivered_37 : decode cX8_delivered 37 = .ok (.athrow, 1) := by decide +kernel
theorem dX8_delivered_38 : decode cX8_delivered 38 = .ok (.aload_n 3, 1) := by decide +kernel
theorem dX8_delivered_39 : decode cX8_delivered 39 = .ok (.getfield 280, 3) := by decide +kernel
theorem dX8_delivered_42 : decode cX8_delivered 42 = .ok (.iload_n 2, 1) := by decide +kernel
theorem dX8_delivered_43 : decode cX8_delivered 43 = .ok (.invokevirtual 284, 3) := by decide +kernel
theorem dX8_delivered_46 : decode cX8_delivered 46 = .ok (.ireturn, 1) := by decide +kernel
theorem dX8_fairness_0 : decode cX8_fairness 0 = .ok (.lconst 0, 1) := by decide +kernel
theorem dX8_fairness_1 : decode cX8_fairness 1 = .ok (.lstore_n 1, 1) := by decide +kernel
theorem dX8_fairness_2 : decode cX8_fairness 2 = .ok (.lconst 0, 1) := by decide +kernel
theorem dX8_fairness_3 : decode cX8_fairness 3 = .ok (.lstore_n 3, 1) := by decide +kernel
theorem dX8_fairness_4 : decode cX8_fairness 4 = .ok (.iconst 0, 1) := by decide +kernel
theorem dX8_fairness_5 : decode cX8_fairness 5 = .ok (.istore 5, 2) := by decide +kernel
theorem dX8_fairness_7 : decode cX8_fairness 7 = .ok (.iload 5, 2) := by decide +kernel
theorem dX8_fairness_9 : decode cX8_fairness 9 = .ok (.aload_n 0, 1) := by decide +kernel
theorem dX8_fairness_10 : decode cX8_fairness 10 = .ok (.getfield 10, 3) := by decide +kernel
theorem dX8_fairness_13 : decode cX8_fairness 13 = .ok (.getfield 60, 3) := by decide +kernel
theorem dX8_fairness_16 : decode cX8_fairness 16 = .ok (.if_icmp .ge 38, 3) := by decide +kernel
theorem dX8_fairness_19 : decode cX8_fairness 19 = .ok (.aload_n 0, 1) := by decide +kernel
theorem dX8_fairness_20 : decode cX8_fairness 20 = .ok (.getfield 10, 3) := by decide +kernel
theorem dX8_fairness_23 : decode cX8_fairness 23 = .ok (.getfield 96, 3) := by decide +kernel
theorem dX8_fairness_26 : decode cX8_fairness 26 = .ok (.iload 5, 2) := by decide +kernel
theorem dX8_fairness_28 : decode cX8_fairness 28 = .ok (.aaload, 1) := by decide +kernel
theorem dX8_fairness_29 : decode cX8_fairness 29 = .ok (.getfield 191, 3) := by decide +kernel
theorem dX8_fairness_32 : decode cX8_fairness 32 = .ok (.i2l, 1) := by decide +kernel
theorem dX8_fairness_33 : decode cX8_fairness 33 = .ok (.lstore 6, 2) := by decide +kernel
theorem dX8_fairness_35 : decode cX8_fairness 35 = .ok (.lload_n 1, 1) := by decide +kernel
theorem dX8_fairness_36 : decode cX8_fairness 36 = .ok (.lload 6, 2) := by decide +kernel
theorem dX8_fairness_38 : decode cX8_fairness 38 = .ok (.ladd, 1) := by decide +kernel
theorem dX8_fairness_39 : decode cX8_fairness 39 = .ok (.lstore_n 1, 1) := by decide +kernel
theorem dX8_fairness_40 : decode cX8_fairness 40 = .ok (.lload_n 3, 1) := by decide +kernel
theorem dX8_fairness_41 : decode cX8_fairness 41 = .ok (.lload 6, 2) := by decide +kernel
theorem dX8_fairness_43 : decode cX8_fairness 43 = .ok (.lload 6, 2) := by decide +kernel
theorem dX8_fairness_45 : decode cX8_fairness 45 = .ok (.lmul, 1) := by decide +kernel
theorem dX8_fairness_46 : decode cX8_fairness 46 = .ok (.ladd, 1) := by decide +kernel
theorem dX8_fairness_47 : decode cX8_fairness 47 = .ok (.lstore_n 3, 1) := by decide +kernel
theorem dX8_fairness_48 : decode cX8_fairness 48 = .ok (.iinc 5 1, 3) := by decide +kernel
theorem dX8_fairness_51 : decode cX8_fairness 51 = .ok (.goto (-44), 3) := by decide +kernel
theorem dX8_fairness_54 : decode cX8_fairness 54 = .ok (.lload_n 3, 1) := by decide +kernel
theorem dX8_fairness_55 : decode cX8_fairness 55 = .ok (.lconst 0, 1) := by decide +kernel
theorem dX8_fairness_56 : decode cX8_fairness 56 = .ok (.lcmp, 1) := by decide +kernel
theorem dX8_fairness_57 : decode cX8_fairness 57 = .ok (.ifCond .gt 5, 3) := by decide +kernel
theorem dX8_fairness_60 : decode cX8_fairness 60 = .ok (.dconst 1, 1) := by decide +kernel
theorem dX8_fairness_61 : decode cX8_fairness 61 = .ok (.dreturn, 1) := by decide +kernel
theorem dX8_fairness_62 : decode cX8_fairness 62 = .ok (.lload_n 1, 1) := by decide +kernel
theorem dX8_fairness_63 : decode cX8_fairness 63 = .ok (.lload_n 1, 1) := by decide +kernel
theorem dX8_fairness_64 : decode cX8_fairness 64 = .ok (.lmul, 1) := by decide +kernel
theorem dX8_fairness_65 : decode cX8_fairness 65 = .ok (.l2d, 1) := by decide +kernel
theorem dX8_fairness_66 : decode cX8_fairness 66 = .ok (.aload_n 0, 1) := by decide +kernel
theorem dX8_fairness_67 : decode cX8_fairness 67 = .ok (.getfield 10, 3) := by decide +kernel
theorem dX8_fairness_70 : decode cX8_fairness 70 = .ok (.getfield 60, 3) := by decide +kernel
theorem dX8_fairness_73 : decode cX8_fairness 73 = .ok (.i2l, 1) := by decide +kernel
theorem dX8_fairness_74 : decode cX8_fairness 74 = .ok (.lload_n 3, 1) := by decide +kernel
theorem dX8_fairness_75 : decode cX8_fairness 75 = .ok (.lmul, 1) := by decide +kernel
theorem dX8_fairness_76 : decode cX8_fairness 76 = .ok (.l2d, 1) := by decide +kernel
theorem dX8_fairness_77 : decode cX8_fairness 77 = .ok (.ddiv, 1) := by decide +kernel
theorem dX8_fairness_78 : decode cX8_fairness 78 = .ok (.dreturn, 1) := by decide +kernel
theorem dX8_row_0 : decode cX8_row 0 = .ok (.new 289, 3) := by decide +kernel
theorem dX8_row_3 : decode cX8_row 3 = .ok (.dup, 1) := by decide +kernel
theorem dX8_row_4 : decode cX8_row 4 = .ok (.invokespecial 291, 3) := by decide +kernel
theorem dX8_row_7 : decode cX8_row 7 = .ok (.astore_n 1, 1) := by decide +kernel
theorem dX8_row_8 : decode cX8_row 8 = .ok (.iconst 0, 1) := by decide +kernel
theorem dX8_row_9 : decode cX8_row 9 = .ok (.istore_n 2, 1) := by decide +kernel
theorem dX8_row_10 : decode cX8_row 10 = .ok (.iload_n 2, 1) := by decide +kernel
theorem dX8_row_11 : decode cX8_row 11 = .ok (.aload_n 0, 1) := by decide +kernel
theorem dX8_row_12 : decode cX8_row 12 = .ok (.getfield 10, 3) := by decide +kernel
theorem dX8_row_15 : decode cX8_row 15 = .ok (.getfield 60, 3) := by decide +kernel
theorem dX8_row_18 : decode cX8_row 18 = .ok (.if_icmp .ge 26, 3) := by decide +kernel
theorem dX8_row_21 : decode cX8_row 21 = .ok (.aload_n 1, 1) := by decide +kernel
theorem dX8_row_22 : decode cX8_row 22 = .ok (.aload_n 0, 1) := by decide +kernel
theorem dX8_row_23 : decode cX8_row 23 = .ok (.getfield 10, 3) := by decide +kernel
theorem dX8_row_26 : decode cX8_row 26 = .ok (.getfield 96, 3) := by decide +kernel
theorem dX8_row_29 : decode cX8_row 29 = .ok (.iload_n 2, 1) := by decide +kernel
theorem dX8_row_30 : decode cX8_row 30 = .ok (.aaload, 1) := by decide +kernel
theorem dX8_row_31 : decode cX8_row 31 = .ok (.invokevirtual 292, 3) := by decide +kernel
theorem dX8_row_34 : decode cX8_row 34 = .ok (.invokevirtual 296, 3) := by decide +kernel
theorem dX8_row_37 : decode cX8_row 37 = .ok (.pop, 1) := by decide +kernel
theorem dX8_row_38 : decode cX8_row 38 = .ok (.iinc 2 1, 3) := by decide +kernel
theorem dX8_row_41 : decode cX8_row 41 = .ok (.goto (-31), 3) := by decide +kernel
theorem dX8_row_44 : decode cX8_row 44 = .ok (.aload_n 1, 1) := by decide +kernel
theorem dX8_row_45 : decode cX8_row 45 = .ok (.invokevirtual 300, 3) := by decide +kernel
theorem dX8_row_48 : decode cX8_row 48 = .ok (.areturn, 1) := by decide +kernel
theorem dX8_would_0 : decode cX8_would 0 = .ok (.aload_n 0, 1) := by decide +kernel
theorem dX8_would_1 : decode cX8_would 1 = .ok (.iload_n 2, 1) := by decide +kernel
theorem dX8_would_2 : decode cX8_would 2 = .ok (.invokevirtual 72, 3) := by decide +kernel
theorem dX8_would_5 : decode cX8_would 5 = .ok (.iload_n 1, 1) := by decide +kernel
theorem dX8_would_6 : decode cX8_would 6 = .ok (.iconst 0, 1) := by decide +kernel
theorem dX8_would_7 : decode cX8_would 7 = .ok (.aload_n 0, 1) := by decide +kernel
theorem dX8_would_8 : decode cX8_would 8 = .ok (.getfield 10, 3) := by decide +kernel
theorem dX8_would_11 : decode cX8_would 11 = .ok (.invokevirtual 304, 3) := by decide +kernel
theorem dX8_would_14 : decode cX8_would 14 = .ok (.invokestatic 109, 3) := by decide +kernel
theorem dX8_would_17 : decode cX8_would 17 = .ok (.ifCond .eq 11, 3) := by decide +kernel
theorem dX8_would_20 : decode cX8_would 20 = .ok (.iload_n 1, 1) := by decide +kernel
theorem dX8_would_21 : decode cX8_would 21 = .ok (.iload_n 2, 1) := by decide +kernel
theorem dX8_would_22 : decode cX8_would 22 = .ok (.invokestatic 307, 3) := by decide +kernel
theorem dX8_would_25 : decode cX8_would 25 = .ok (.ifCond .eq 14, 3) := by decide +kernel
theorem dX8_would_28 : decode cX8_would 28 = .ok (.new 53, 3) := by decide +kernel
theorem dX8_would_31 : decode cX8_would 31 = .ok (.dup, 1) := by decide +kernel
theorem dX8_would_32 : decode cX8_would 32 = .ok (.ldc_w 310, 3) := by decide +kernel
theorem dX8_would_35 : decode cX8_would 35 = .ok (.invokespecial 57, 3) := by decide +kernel
theorem dX8_would_38 : decode cX8_would 38 = .ok (.athrow, 1) := by decide +kernel
theorem dX8_would_39 : decode cX8_would 39 = .ok (.iconst 0, 1) := by decide +kernel
theorem dX8_would_40 : decode cX8_would 40 = .ok (.istore_n 3, 1) := by decide +kernel
theorem dX8_would_41 : decode cX8_would 41 = .ok (.iload_n 3, 1) := by decide +kernel
theorem dX8_would_42 : decode cX8_would 42 = .ok (.aload_n 0, 1) := by decide +kernel
theorem dX8_would_43 : decode cX8_would 43 = .ok (.getfield 10, 3) := by decide +kernel
theorem dX8_would_46 : decode cX8_would 46 = .ok (.getfield 60, 3) := by decide +kernel
theorem dX8_would_49 : decode cX8_would 49 = .ok (.if_icmp .ge 32, 3) := by decide +kernel
theorem dX8_would_52 : decode cX8_would 52 = .ok (.iload_n 1, 1) := by decide +kernel
theorem dX8_would_53 : decode cX8_would 53 = .ok (.iload_n 3, 1) := by decide +kernel
theorem dX8_would_54 : decode cX8_would 54 = .ok (.invokestatic 307, 3) := by decide +kernel
theorem dX8_would_57 : decode cX8_would 57 = .ok (.ifCond .eq 18, 3) := by decide +kernel
theorem dX8_would_60 : decode cX8_would 60 = .ok (.aload_n 0, 1) := by decide +kernel
theorem dX8_would_61 : decode cX8_would 61 = .ok (.getfield 10, 3) := by decide +kernel
theorem dX8_would_64 : decode cX8_would 64 = .ok (.iload_n 2, 1) := by decide +kernel
theorem dX8_would_65 : decode cX8_would 65 = .ok (.iload_n 3, 1) := by decide +kernel
theorem dX8_would_66 : decode cX8_would 66 = .ok (.iload_n 1, 1) := by decide +kernel
theorem dX8_would_67 : decode cX8_would 67 = .ok (.invokevirtual 312, 3) := by decide +kernel
theorem dX8_would_70 : decode cX8_would 70 = .ok (.ifCond .eq 5, 3) := by decide +kernel
theorem dX8_would_73 : decode cX8_would 73 = .ok (.iload_n 3, 1) := by decide +kernel
theorem dX8_would_74 : decode cX8_would 74 = .ok (.ireturn, 1) := by decide +kernel
theorem dX8_would_75 : decode cX8_would 75 = .ok (.iinc 3 1, 3) := by decide +kernel
theorem dX8_would_78 : decode cX8_would 78 = .ok (.goto (-37), 3) := by decide +kernel
theorem dX8_would_81 : decode cX8_would 81 = .ok (.iconst (-1), 1) := by decide +kernel
theorem dX8_would_82 : decode cX8_would 82 = .ok (.ireturn, 1) := by decide +kernel
theorem dX8_throughput_0 : decode cX8_throughput 0 = .ok (.iload_n 1, 1) := by decide +kernel
theorem dX8_throughput_1 : decode cX8_throughput 1 = .ok (.iconst 1, 1) := by decide +kernel
theorem dX8_throughput_2 : decode cX8_throughput 2 = .ok (.bipush 20, 2) := by decide +kernel
theorem dX8_throughput_4 : decode cX8_throughput 4 = .ok (.invokestatic 109, 3) := by decide +kernel
theorem dX8_throughput_7 : decode cX8_throughput 7 = .ok (.ifCond .eq 13, 3) := by decide +kernel
theorem dX8_throughput_10 : decode cX8_throughput 10 = .ok (.iload_n 2, 1) := by decide +kernel
theorem dX8_throughput_11 : decode cX8_throughput 11 = .ok (.iconst 0, 1) := by decide +kernel
theorem dX8_throughput_12 : decode cX8_throughput 12 = .ok (.bipush 100, 2) := by decide +kernel
theorem dX8_throughput_14 : decode cX8_throughput 14 = .ok (.invokestatic 109, 3) := by decide +kernel
theorem dX8_throughput_17 : decode cX8_throughput 17 = .ok (.ifCond .ne 14, 3) := by decide +kernel
theorem dX8_throughput_20 : decode cX8_throughput 20 = .ok (.new 53, 3) := by decide +kernel
theorem dX8_throughput_23 : decode cX8_throughput 23 = .ok (.dup, 1) := by decide +kernel
theorem dX8_throughput_24 : decode cX8_throughput 24 = .ok (.ldc_w 315, 3) := by decide +kernel
theorem dX8_throughput_27 : decode cX8_throughput 27 = .ok (.invokespecial 57, 3) := by decide +kernel
theorem dX8_throughput_30 : decode cX8_throughput 30 = .ok (.athrow, 1) := by decide +kernel
theorem dX8_throughput_31 : decode cX8_throughput 31 = .ok (.iload_n 1, 1) := by decide +kernel
theorem dX8_throughput_32 : decode cX8_throughput 32 = .ok (.iload_n 2, 1) := by decide +kernel
theorem dX8_throughput_33 : decode cX8_throughput 33 = .ok (.invokestatic 317, 3) := by decide +kernel
theorem dX8_throughput_36 : decode cX8_throughput 36 = .ok (.dreturn, 1) := by decide +kernel
theorem dX8_bestChance_0 : decode cX8_bestChance 0 = .ok (.iload_n 1, 1) := by decide +kernel
theorem dX8_bestChance_1 : decode cX8_bestChance 1 = .ok (.iconst 1, 1) := by decide +kernel
theorem dX8_bestChance_2 : decode cX8_bestChance 2 = .ok (.bipush 20, 2) := by decide +kernel
theorem dX8_bestChance_4 : decode cX8_bestChance 4 = .ok (.invokestatic 109, 3) := by decide +kernel
theorem dX8_bestChance_7 : decode cX8_bestChance 7 = .ok (.ifCond .ne 14, 3) := by decide +kernel
theorem dX8_bestChance_10 : decode cX8_bestChance 10 = .ok (.new 53, 3) := by decide +kernel
theorem dX8_bestChance_13 : decode cX8_bestChance 13 = .ok (.dup, 1) := by decide +kernel
theorem dX8_bestChance_14 : decode cX8_bestChance 14 = .ok (.ldc_w 321, 3) := by decide +kernel
theorem dX8_bestChance_17 : decode cX8_bestChance 17 = .ok (.invokespecial 57, 3) := by decide +kernel
theorem dX8_bestChance_20 : decode cX8_bestChance 20 = .ok (.athrow, 1) := by decide +kernel
theorem dX8_bestChance_21 : decode cX8_bestChance 21 = .ok (.iconst 0, 1) := by decide +kernel
theorem dX8_bestChance_22 : decode cX8_bestChance 22 = .ok (.istore_n 2, 1) := by decide +kernel
theorem dX8_bestChance_23 : decode cX8_bestChance 23 = .ok (.iload_n 1, 1) := by decide +kernel
theorem dX8_bestChance_24 : decode cX8_bestChance 24 = .ok (.iconst 0, 1) := by decide +kernel
theorem dX8_bestChance_25 : decode cX8_bestChance 25 = .ok (.invokestatic 317, 3) := by decide +kernel
theorem dX8_bestChance_28 : decode cX8_bestChance 28 = .ok (.dstore_n 3, 1) := by decide +kernel
theorem dX8_bestChance_29 : decode cX8_bestChance 29 = .ok (.iconst 1, 1) := by decide +kernel
theorem dX8_bestChance_30 : decode cX8_bestChance 30 = .ok (.istore 5, 2) := by decide +kernel
theorem dX8_bestChance_32 : decode cX8_bestChance 32 = .ok (.iload 5, 2) := by decide +kernel
theorem dX8_bestChance_34 : decode cX8_bestChance 34 = .ok (.bipush 100, 2) := by decide +kernel
theorem dX8_bestChance_36 : decode cX8_bestChance 36 = .ok (.if_icmp .gt 30, 3) := by decide +kernel
theorem dX8_bestChance_39 : decode cX8_bestChance 39 = .ok (.iload_n 1, 1) := by decide +kernel
theorem dX8_bestChance_40 : decode cX8_bestChance 40 = .ok (.iload 5, 2) := by decide +kernel
theorem dX8_bestChance_42 : decode cX8_bestChance 42 = .ok (.invokestatic 317, 3) := by decide +kernel
theorem dX8_bestChance_45 : decode cX8_bestChance 45 = .ok (.dstore 6, 2) := by decide +kernel
theorem dX8_bestChance_47 : decode cX8_bestChance 47 = .ok (.dload 6, 2) := by decide +kernel
theorem dX8_bestChance_49 : decode cX8_bestChance 49 = .ok (.dload_n 3, 1) := by decide +kernel
theorem dX8_bestChance_50 : decode cX8_bestChance 50 = .ok (.dcmp .l, 1) := by decide +kernel
theorem dX8_bestChance_51 : decode cX8_bestChance 51 = .ok (.ifCond .le 9, 3) := by decide +kernel
theorem dX8_bestChance_54 : decode cX8_bestChance 54 = .ok (.iload 5, 2) := by decide +kernel
theorem dX8_bestChance_56 : decode cX8_bestChance 56 = .ok (.istore_n 2, 1) := by decide +kernel
theorem dX8_bestChance_57 : decode cX8_bestChance 57 = .ok (.dload 6, 2) := by decide +kernel
theorem dX8_bestChance_59 : decode cX8_bestChance 59 = .ok (.dstore_n 3, 1) := by decide +kernel
theorem dX8_bestChance_60 : decode cX8_bestChance 60 = .ok (.iinc 5 1, 3) := by decide +kernel
theorem dX8_bestChance_63 : decode cX8_bestChance 63 = .ok (.goto (-31), 3) := by decide +kernel
theorem dX8_bestChance_66 : decode cX8_bestChance 66 = .ok (.iload_n 2, 1) := by decide +kernel
theorem dX8_bestChance_67 : decode cX8_bestChance 67 = .ok (.ireturn, 1) := by decide +kernel
theorem dX8_auction_0 : decode cX8_auction 0 = .ok (.iload_n 1, 1) := by decide +kernel
theorem dX8_auction_1 : decode cX8_auction 1 = .ok (.iconst 0, 1) := by decide +kernel
theorem dX8_auction_2 : decode cX8_auction 2 = .ok (.bipush 6, 2) := by decide +kernel
theorem dX8_auction_4 : decode cX8_auction 4 = .ok (.invokestatic 109, 3) := by decide +kernel
theorem dX8_auction_7 : decode cX8_auction 7 = .ok (.ifCond .ne 14, 3) := by decide +kernel
theorem dX8_auction_10 : decode cX8_auction 10 = .ok (.new 53, 3) := by decide +kernel
theorem dX8_auction_13 : decode cX8_auction 13 = .ok (.dup, 1) := by decide +kernel
theorem dX8_auction_14 : decode cX8_auction 14 = .ok (.ldc_w 323, 3) := by decide +kernel
theorem dX8_auction_17 : decode cX8_auction 17 = .ok (.invokespecial 57, 3) := by decide +kernel
theorem dX8_auction_20 : decode cX8_auction 20 = .ok (.athrow, 1) := by decide +kernel
theorem dX8_auction_21 : decode cX8_auction 21 = .ok (.iload_n 1, 1) := by decide +kernel
theorem dX8_auction_22 : decode cX8_auction 22 = .ok (.lookupswitch 42 #[(0, 26), (1, 34)], 26) := by decide +kernel
theorem dX8_auction_48 : decode cX8_auction 48 = .ok (.aload_n 0, 1) := by decide +kernel
theorem dX8_auction_49 : decode cX8_auction 49 = .ok (.getfield 37, 3) := by decide +kernel
theorem dX8_auction_52 : decode cX8_auction 52 = .ok (.getfield 325, 3) := by decide +kernel
theorem dX8_auction_55 : decode cX8_auction 55 = .ok (.ireturn, 1) := by decide +kernel
theorem dX8_auction_56 : decode cX8_auction 56 = .ok (.aload_n 0, 1) := by decide +kernel
theorem dX8_auction_57 : decode cX8_auction 57 = .ok (.getfield 37, 3) := by decide +kernel
theorem dX8_auction_60 : decode cX8_auction 60 = .ok (.getfield 328, 3) := by decide +kernel
theorem dX8_auction_63 : decode cX8_auction 63 = .ok (.ireturn, 1) := by decide +kernel
theorem dX8_auction_64 : decode cX8_auction 64 = .ok (.aload_n 0, 1) := by decide +kernel
theorem dX8_auction_65 : decode cX8_auction 65 = .ok (.getfield 37, 3) := by decide +kernel
theorem dX8_auction_68 : decode cX8_auction 68 = .ok (.iload_n 1, 1) := by decide +kernel
theorem dX8_auction_69 : decode cX8_auction 69 = .ok (.iconst 2, 1) := by decide +kernel
theorem dX8_auction_70 : decode cX8_auction 70 = .ok (.isub, 1) := by decide +kernel
theorem dX8_auction_71 : decode cX8_auction 71 = .ok (.invokevirtual 331, 3) := by decide +kernel
theorem dX8_auction_74 : decode cX8_auction 74 = .ok (.ireturn, 1) := by decide +kernel
theorem dX8_cover_0 : decode cX8_cover 0 = .ok (.aload_n 0, 1) := by decide +kernel
theorem dX8_cover_1 : decode cX8_cover 1 = .ok (.getfield 10, 3) := by decide +kernel
theorem dX8_cover_4 : decode cX8_cover 4 = .ok (.invokevirtual 334, 3) := by decide +kernel
theorem dX8_cover_7 : decode cX8_cover 7 = .ok (.ireturn, 1) := by decide +kernel
theorem dX8_isSound_0 : decode cX8_isSound 0 = .ok (.iconst 0, 1) := by decide +kernel
theorem dX8_isSound_1 : decode cX8_isSound 1 = .ok (.istore_n 1, 1) := by decide +kernel
theorem dX8_isSound_2 : decode cX8_isSound 2 = .ok (.iconst 0, 1) := by decide +kernel
theorem dX8_isSound_3 : decode cX8_isSound 3 = .ok (.istore_n 2, 1) := by decide +kernel
theorem dX8_isSound_4 : decode cX8_isSound 4 = .ok (.iload_n 2, 1) := by decide +kernel
theorem dX8_isSound_5 : decode cX8_isSound 5 = .ok (.aload_n 0, 1) := by decide +kernel
theorem dX8_isSound_6 : decode cX8_isSound 6 = .ok (.getfield 10, 3) := by decide +kernel
theorem dX8_isSound_9 : decode cX8_isSound 9 = .ok (.getfield 60, 3) := by decide +kernel
theorem dX8_isSound_12 : decode cX8_isSound 12 = .ok (.if_icmp .ge 55, 3) := by decide +kernel
theorem dX8_isSound_15 : decode cX8_isSound 15 = .ok (.aload_n 0, 1) := by decide +kernel
theorem dX8_isSound_16 : decode cX8_isSound 16 = .ok (.getfield 10, 3) := by decide +kernel
theorem dX8_isSound_19 : decode cX8_isSound 19 = .ok (.getfield 96, 3) := by decide +kernel
theorem dX8_isSound_22 : decode cX8_isSound 22 = .ok (.iload_n 2, 1) := by decide +kernel
theorem dX8_isSound_23 : decode cX8_isSound 23 = .ok (.aaload, 1) := by decide +kernel
theorem dX8_isSound_24 : decode cX8_isSound 24 = .ok (.invokevirtual 337, 3) := by decide +kernel
theorem dX8_isSound_27 : decode cX8_isSound 27 = .ok (.ifCond .eq 14, 3) := by decide +kernel
theorem dX8_isSound_30 : decode cX8_isSound 30 = .ok (.aload_n 0, 1) := by decide +kernel
theorem dX8_isSound_31 : decode cX8_isSound 31 = .ok (.getfield 21, 3) := by decide +kernel
theorem dX8_isSound_34 : decode cX8_isSound 34 = .ok (.iload_n 2, 1) := by decide +kernel
theorem dX8_isSound_35 : decode cX8_isSound 35 = .ok (.invokevirtual 341, 3) := by decide +kernel
theorem dX8_isSound_38 : decode cX8_isSound 38 = .ok (.ifCond .ne 5, 3) := by decide +kernel
theorem dX8_isSound_41 : decode cX8_isSound 41 = .ok (.iconst 0, 1) := by decide +kernel
theorem dX8_isSound_42 : decode cX8_isSound 42 = .ok (.ireturn, 1) := by decide +kernel
theorem dX8_isSound_43 : decode cX8_isSound 43 = .ok (.iload_n 1, 1) := by decide +kernel
theorem dX8_isSound_44 : decode cX8_isSound 44 = .ok (.aload_n 0, 1) := by decide +kernel
theorem dX8_isSound_45 : decode cX8_isSound 45 = .ok (.getfield 10, 3) := by decide +kernel
theorem dX8_isSound_48 : decode cX8_isSound 48 = .ok (.getfield 96, 3) := by decide +kernel
theorem dX8_isSound_51 : decode cX8_isSound 51 = .ok (.iload_n 2, 1) := by decide +kernel
theorem dX8_isSound_52 : decode cX8_isSound 52 = .ok (.aaload, 1) := by decide +kernel
theorem dX8_isSound_53 : decode cX8_isSound 53 = .ok (.getfield 280, 3) := by decide +kernel
theorem dX8_isSound_56 : decode cX8_isSound 56 = .ok (.invokevirtual 344, 3) := by decide +kernel
theorem dX8_isSound_59 : decode cX8_isSound 59 = .ok (.iadd, 1) := by decide +kernel
theorem dX8_isSound_60 : decode cX8_isSound 60 = .ok (.istore_n 1, 1) := by decide +kernel
theorem dX8_isSound_61 : decode cX8_isSound 61 = .ok (.iinc 2 1, 3) := by decide +kernel
theorem dX8_isSound_64 : decode cX8_isSound 64 = .ok (.goto (-60), 3) := by decide +kernel
theorem dX8_isSound_67 : decode cX8_isSound 67 = .ok (.aload_n 0, 1) := by decide +kernel
theorem dX8_isSound_68 : decode cX8_isSound 68 = .ok (.getfield 30, 3) := by decide +kernel
theorem dX8_isSound_71 : decode cX8_isSound 71 = .ok (.getfield 252, 3) := by decide +kernel
theorem dX8_isSound_74 : decode cX8_isSound 74 = .ok (.iload_n 1, 1) := by decide +kernel
theorem dX8_isSound_75 : decode cX8_isSound 75 = .ok (.if_icmp .ne 26, 3) := by decide +kernel
theorem dX8_isSound_78 : decode cX8_isSound 78 = .ok (.aload_n 0, 1) := by decide +kernel
theorem dX8_isSound_79 : decode cX8_isSound 79 = .ok (.invokevirtual 346, 3) := by decide +kernel
theorem dX8_isSound_82 : decode cX8_isSound 82 = .ok (.dconst 1, 1) := by decide +kernel
theorem dX8_isSound_83 : decode cX8_isSound 83 = .ok (.dcmp .g, 1) := by decide +kernel
theorem dX8_isSound_84 : decode cX8_isSound 84 = .ok (.ifCond .gt 17, 3) := by decide +kernel
theorem dX8_isSound_87 : decode cX8_isSound 87 = .ok (.aload_n 0, 1) := by decide +kernel
theorem dX8_isSound_88 : decode cX8_isSound 88 = .ok (.getfield 37, 3) := by decide +kernel
theorem dX8_isSound_91 : decode cX8_isSound 91 = .ok (.invokevirtual 350, 3) := by decide +kernel
theorem dX8_isSound_94 : decode cX8_isSound 94 = .ok (.ifCond .eq 7, 3) := by decide +kernel
theorem dX8_isSound_97 : decode cX8_isSound 97 = .ok (.iconst 1, 1) := by decide +kernel
theorem dX8_isSound_98 : decode cX8_isSound 98 = .ok (.goto 4, 3) := by decide +kernel
theorem dX8_isSound_101 : decode cX8_isSound 101 = .ok (.iconst 0, 1) := by decide +kernel
theorem dX8_isSound_102 : decode cX8_isSound 102 = .ok (.ireturn, 1) := by decide +kernel
theorem dX8_digest_0 : decode cX8_digest 0 = .ok (.ldc2_w 353, 3) := by decide +kernel
theorem dX8_digest_3 : decode cX8_digest 3 = .ok (.lstore_n 1, 1) := by decide +kernel
theorem dX8_digest_4 : decode cX8_digest 4 = .ok (.iconst 0, 1) := by decide +kernel
theorem dX8_digest_5 : decode cX8_digest 5 = .ok (.istore_n 3, 1) := by decide +kernel
theorem dX8_digest_6 : decode cX8_digest 6 = .ok (.iload_n 3, 1) := by decide +kernel
theorem dX8_digest_7 : decode cX8_digest 7 = .ok (.bipush 12, 2) := by decide +kernel
theorem dX8_digest_9 : decode cX8_digest 9 = .ok (.if_icmp .gt 20, 3) := by decide +kernel
theorem dX8_digest_12 : decode cX8_digest 12 = .ok (.lload_n 1, 1) := by decide +kernel
theorem dX8_digest_13 : decode cX8_digest 13 = .ok (.aload_n 0, 1) := by decide +kernel
theorem dX8_digest_14 : decode cX8_digest 14 = .ok (.iload_n 3, 1) := by decide +kernel
theorem dX8_digest_15 : decode cX8_digest 15 = .ok (.invokevirtual 355, 3) := by decide +kernel
theorem dX8_digest_18 : decode cX8_digest 18 = .ok (.i2l, 1) := by decide +kernel
theorem dX8_digest_19 : decode cX8_digest 19 = .ok (.invokestatic 358, 3) := by decide +kernel
theorem dX8_digest_22 : decode cX8_digest 22 = .ok (.lstore_n 1, 1) := by decide +kernel
theorem dX8_digest_23 : decode cX8_digest 23 = .ok (.iinc 3 1, 3) := by decide +kernel
theorem dX8_digest_26 : decode cX8_digest 26 = .ok (.goto (-20), 3) := by decide +kernel
theorem dX8_digest_29 : decode cX8_digest 29 = .ok (.iconst 0, 1) := by decide +kernel
theorem dX8_digest_30 : decode cX8_digest 30 = .ok (.istore_n 3, 1) := by decide +kernel
theorem dX8_digest_31 : decode cX8_digest 31 = .ok (.iload_n 3, 1) := by decide +kernel
theorem dX8_digest_32 : decode cX8_digest 32 = .ok (.aload_n 0, 1) := by decide +kernel
theorem dX8_digest_33 : decode cX8_digest 33 = .ok (.getfield 10, 3) := by decide +kernel
theorem dX8_digest_36 : decode cX8_digest 36 = .ok (.getfield 60, 3) := by decide +kernel
theorem dX8_digest_39 : decode cX8_digest 39 = .ok (.if_icmp .ge 16, 3) := by decide +kernel
theorem dX8_digest_42 : decode cX8_digest 42 = .ok (.aload_n 0, 1) := by decide +kernel
theorem dX8_digest_43 : decode cX8_digest 43 = .ok (.lload_n 1, 1) := by decide +kernel
theorem dX8_digest_44 : decode cX8_digest 44 = .ok (.iload_n 3, 1) := by decide +kernel
theorem dX8_digest_45 : decode cX8_digest 45 = .ok (.invokevirtual 362, 3) := by decide +kernel
theorem dX8_digest_48 : decode cX8_digest 48 = .ok (.lstore_n 1, 1) := by decide +kernel
theorem dX8_digest_49 : decode cX8_digest 49 = .ok (.iinc 3 1, 3) := by decide +kernel
theorem dX8_digest_52 : decode cX8_digest 52 = .ok (.goto (-21), 3) := by decide +kernel
theorem dX8_digest_55 : decode cX8_digest 55 = .ok (.lload_n 1, 1) := by decide +kernel
theorem dX8_digest_56 : decode cX8_digest 56 = .ok (.ldc2_w 366, 3) := by decide +kernel
theorem dX8_digest_59 : decode cX8_digest 59 = .ok (.aload_n 0, 1) := by decide +kernel
theorem dX8_digest_60 : decode cX8_digest 60 = .ok (.invokevirtual 346, 3) := by decide +kernel
theorem dX8_digest_63 : decode cX8_digest 63 = .ok (.dmul, 1) := by decide +kernel
theorem dX8_digest_64 : decode cX8_digest 64 = .ok (.d2l, 1) := by decide +kernel
theorem dX8_digest_65 : decode cX8_digest 65 = .ok (.invokestatic 358, 3) := by decide +kernel
theorem dX8_digest_68 : decode cX8_digest 68 = .ok (.lstore_n 1, 1) := by decide +kernel
theorem dX8_digest_69 : decode cX8_digest 69 = .ok (.iconst 0, 1) := by decide +kernel
theorem dX8_digest_70 : decode cX8_digest 70 = .ok (.istore_n 3, 1) := by decide +kernel
theorem dX8_digest_71 : decode cX8_digest 71 = .ok (.iload_n 3, 1) := by decide +kernel
theorem dX8_digest_72 : decode cX8_digest 72 = .ok (.bipush 6, 2) := by decide +kernel
theorem dX8_digest_74 : decode cX8_digest 74 = .ok (.if_icmp .gt 20, 3) := by decide +kernel
theorem dX8_digest_77 : decode cX8_digest 77 = .ok (.lload_n 1, 1) := by decide +kernel
theorem dX8_digest_78 : decode cX8_digest 78 = .ok (.aload_n 0, 1) := by decide +kernel
theorem dX8_digest_79 : decode cX8_digest 79 = .ok (.iload_n 3, 1) := by decide +kernel
theorem dX8_digest_80 : decode cX8_digest 80 = .ok (.invokevirtual 368, 3) := by decide +kernel
theorem dX8_digest_83 : decode cX8_digest 83 = .ok (.i2l, 1) := by decide +kernel
theorem dX8_digest_84 : decode cX8_digest 84 = .ok (.invokestatic 358, 3) := by decide +kernel
theorem dX8_digest_87 : decode cX8_digest 87 = .ok (.lstore_n 1, 1) := by decide +kernel
theorem dX8_digest_88 : decode cX8_digest 88 = .ok (.iinc 3 1, 3) := by decide +kernel
theorem dX8_digest_91 : decode cX8_digest 91 = .ok (.goto (-20), 3) := by decide +kernel
theorem dX8_digest_94 : decode cX8_digest 94 = .ok (.lload_n 1, 1) := by decide +kernel
theorem dX8_digest_95 : decode cX8_digest 95 = .ok (.aload_n 0, 1) := by decide +kernel
theorem dX8_digest_96 : decode cX8_digest 96 = .ok (.invokevirtual 371, 3) := by decide +kernel
theorem dX8_digest_99 : decode cX8_digest 99 = .ok (.i2l, 1) := by decide +kernel
theorem dX8_digest_100 : decode cX8_digest 100 = .ok (.invokestatic 358, 3) := by decide +kernel
theorem dX8_digest_103 : decode cX8_digest 103 = .ok (.lstore_n 1, 1) := by decide +kernel
theorem dX8_digest_104 : decode cX8_digest 104 = .ok (.lload_n 1, 1) := by decide +kernel
theorem dX8_digest_105 : decode cX8_digest 105 = .ok (.aload_n 0, 1) := by decide +kernel
theorem dX8_digest_106 : decode cX8_digest 106 = .ok (.invokevirtual 374, 3) := by decide +kernel
theorem dX8_digest_109 : decode cX8_digest 109 = .ok (.ifCond .eq 7, 3) := by decide +kernel
theorem dX8_digest_112 : decode cX8_digest 112 = .ok (.lconst 1, 1) := by decide +kernel
theorem dX8_digest_113 : decode cX8_digest 113 = .ok (.goto 4, 3) := by decide +kernel
theorem dX8_digest_116 : decode cX8_digest 116 = .ok (.lconst 0, 1) := by decide +kernel
theorem dX8_digest_117 : decode cX8_digest 117 = .ok (.invokestatic 358, 3) := by decide +kernel
theorem dX8_digest_120 : decode cX8_digest 120 = .ok (.lreturn, 1) := by decide +kernel
theorem dX8_mixNode_0 : decode cX8_mixNode 0 = .ok (.lload_n 1, 1) := by decide +kernel
theorem dX8_mixNode_1 : decode cX8_mixNode 1 = .ok (.lstore 4, 2) := by decide +kernel
theorem dX8_mixNode_3 : decode cX8_mixNode 3 = .ok (.iconst 0, 1) := by decide +kernel
theorem dX8_mixNode_4 : decode cX8_mixNode 4 = .ok (.istore 6, 2) := by decide +kernel
theorem dX8_mixNode_6 : decode cX8_mixNode 6 = .ok (.iload 6, 2) := by decide +kernel
theorem dX8_mixNode_8 : decode cX8_mixNode 8 = .ok (.bipush 15, 2) := by decide +kernel
theorem dX8_mixNode_10 : decode cX8_mixNode 10 = .ok (.if_icmp .gt 24, 3) := by decide +kernel
theorem dX8_mixNode_13 : decode cX8_mixNode 13 = .ok (.lload 4, 2) := by decide +kernel
theorem dX8_mixNode_15 : decode cX8_mixNode 15 = .ok (.aload_n 0, 1) := by decide +kernel
theorem dX8_mixNode_16 : decode cX8_mixNode 16 = .ok (.iload_n 3, 1) := by decide +kernel
theorem dX8_mixNode_17 : decode cX8_mixNode 17 = .ok (.iload 6, 2) := by decide +kernel
theorem dX8_mixNode_19 : decode cX8_mixNode 19 = .ok (.invokevirtual 377, 3) := by decide +kernel
theorem dX8_mixNode_22 : decode cX8_mixNode 22 = .ok (.i2l, 1) := by decide +kernel
theorem dX8_mixNode_23 : decode cX8_mixNode 23 = .ok (.invokestatic 358, 3) := by decide +kernel
theorem dX8_mixNode_26 : decode cX8_mixNode 26 = .ok (.lstore 4, 2) := by decide +kernel
theorem dX8_mixNode_28 : decode cX8_mixNode 28 = .ok (.iinc 6 1, 3) := by decide +kernel
theorem dX8_mixNode_31 : decode cX8_mixNode 31 = .ok (.goto (-25), 3) := by decide +kernel
theorem dX8_mixNode_34 : decode cX8_mixNode 34 = .ok (.iconst 0, 1) := by decide +kernel
theorem dX8_mixNode_35 : decode cX8_mixNode 35 = .ok (.istore 6, 2) := by decide +kernel
theorem dX8_mixNode_37 : decode cX8_mixNode 37 = .ok (.iload 6, 2) := by decide +kernel
theorem dX8_mixNode_39 : decode cX8_mixNode 39 = .ok (.iconst 4, 1) := by decide +kernel
theorem dX8_mixNode_40 : decode cX8_mixNode 40 = .ok (.if_icmp .gt 25, 3) := by decide +kernel
theorem dX8_mixNode_43 : decode cX8_mixNode 43 = .ok (.lload 4, 2) := by decide +kernel
theorem dX8_mixNode_45 : decode cX8_mixNode 45 = .ok (.aload_n 0, 1) := by decide +kernel
theorem dX8_mixNode_46 : decode cX8_mixNode 46 = .ok (.iload_n 3, 1) := by decide +kernel
theorem dX8_mixNode_47 : decode cX8_mixNode 47 = .ok (.iconst 0, 1) := by decide +kernel
theorem dX8_mixNode_48 : decode cX8_mixNode 48 = .ok (.iload 6, 2) := by decide +kernel
theorem dX8_mixNode_50 : decode cX8_mixNode 50 = .ok (.invokevirtual 380, 3) := by decide +kernel
theorem dX8_mixNode_53 : decode cX8_mixNode 53 = .ok (.i2l, 1) := by decide +kernel
theorem dX8_mixNode_54 : decode cX8_mixNode 54 = .ok (.invokestatic 358, 3) := by decide +kernel
theorem dX8_mixNode_57 : decode cX8_mixNode 57 = .ok (.lstore 4, 2) := by decide +kernel
theorem dX8_mixNode_59 : decode cX8_mixNode 59 = .ok (.iinc 6 1, 3) := by decide +kernel
theorem dX8_mixNode_62 : decode cX8_mixNode 62 = .ok (.goto (-25), 3) := by decide +kernel
theorem dX8_mixNode_65 : decode cX8_mixNode 65 = .ok (.iconst 0, 1) := by decide +kernel
theorem dX8_mixNode_66 : decode cX8_mixNode 66 = .ok (.istore 6, 2) := by decide +kernel
theorem dX8_mixNode_68 : decode cX8_mixNode 68 = .ok (.iload 6, 2) := by decide +kernel
theorem dX8_mixNode_70 : decode cX8_mixNode 70 = .ok (.aload_n 0, 1) := by decide +kernel
theorem dX8_mixNode_71 : decode cX8_mixNode 71 = .ok (.getfield 10, 3) := by decide +kernel
theorem dX8_mixNode_74 : decode cX8_mixNode 74 = .ok (.getfield 60, 3) := by decide +kernel
theorem dX8_mixNode_77 : decode cX8_mixNode 77 = .ok (.if_icmp .ge 47, 3) := by decide +kernel
theorem dX8_mixNode_80 : decode cX8_mixNode 80 = .ok (.iconst 0, 1) := by decide +kernel
theorem dX8_mixNode_81 : decode cX8_mixNode 81 = .ok (.istore 7, 2) := by decide +kernel
theorem dX8_mixNode_83 : decode cX8_mixNode 83 = .ok (.iload 7, 2) := by decide +kernel
theorem dX8_mixNode_85 : decode cX8_mixNode 85 = .ok (.iconst 3, 1) := by decide +kernel
theorem dX8_mixNode_86 : decode cX8_mixNode 86 = .ok (.if_icmp .gt 32, 3) := by decide +kernel
theorem dX8_mixNode_89 : decode cX8_mixNode 89 = .ok (.iload 6, 2) := by decide +kernel
theorem dX8_mixNode_91 : decode cX8_mixNode 91 = .ok (.iload_n 3, 1) := by decide +kernel
theorem dX8_mixNode_92 : decode cX8_mixNode 92 = .ok (.if_icmp .eq 26, 3) := by decide +kernel
theorem dX8_mixNode_95 : decode cX8_mixNode 95 = .ok (.lload 4, 2) := by decide +kernel
theorem dX8_mixNode_97 : decode cX8_mixNode 97 = .ok (.aload_n 0, 1) := by decide +kernel
theorem dX8_mixNode_98 : decode cX8_mixNode 98 = .ok (.iload_n 3, 1) := by decide +kernel
theorem dX8_mixNode_99 : decode cX8_mixNode 99 = .ok (.iload 6, 2) := by decide +kernel
theorem dX8_mixNode_101 : decode cX8_mixNode 101 = .ok (.iload 7, 2) := by decide +kernel
theorem dX8_mixNode_103 : decode cX8_mixNode 103 = .ok (.invokevirtual 383, 3) := by decide +kernel
theorem dX8_mixNode_106 : decode cX8_mixNode 106 = .ok (.i2l, 1) := by decide +kernel
theorem dX8_mixNode_107 : decode cX8_mixNode 107 = .ok (.invokestatic 358, 3) := by decide +kernel
theorem dX8_mixNode_110 : decode cX8_mixNode 110 = .ok (.lstore 4, 2) := by decide +kernel
theorem dX8_mixNode_112 : decode cX8_mixNode 112 = .ok (.iinc 7 1, 3) := by decide +kernel
theorem dX8_mixNode_115 : decode cX8_mixNode 115 = .ok (.goto (-32), 3) := by decide +kernel
theorem dX8_mixNode_118 : decode cX8_mixNode 118 = .ok (.iinc 6 1, 3) := by decide +kernel
theorem dX8_mixNode_121 : decode cX8_mixNode 121 = .ok (.goto (-53), 3) := by decide +kernel
theorem dX8_mixNode_124 : decode cX8_mixNode 124 = .ok (.lload 4, 2) := by decide +kernel
theorem dX8_mixNode_126 : decode cX8_mixNode 126 = .ok (.lreturn, 1) := by decide +kernel
theorem dX8_mix_0 : decode cX8_mix 0 = .ok (.lload_n 0, 1) := by decide +kernel
theorem dX8_mix_1 : decode cX8_mix 1 = .ok (.ldc2_w 386, 3) := by decide +kernel
theorem dX8_mix_4 : decode cX8_mix 4 = .ok (.lmul, 1) := by decide +kernel
theorem dX8_mix_5 : decode cX8_mix 5 = .ok (.lload_n 2, 1) := by decide +kernel
theorem dX8_mix_6 : decode cX8_mix 6 = .ok (.ladd, 1) := by decide +kernel
theorem dX8_mix_7 : decode cX8_mix 7 = .ok (.lreturn, 1) := by decide +kernel
theorem dX8_checkNode_0 : decode cX8_checkNode 0 = .ok (.aload_n 0, 1) := by decide +kernel
theorem dX8_checkNode_1 : decode cX8_checkNode 1 = .ok (.getfield 10, 3) := by decide +kernel
theorem dX8_checkNode_4 : decode cX8_checkNode 4 = .ok (.iload_n 1, 1) := by decide +kernel
theorem dX8_checkNode_5 : decode cX8_checkNode 5 = .ok (.invokevirtual 388, 3) := by decide +kernel
theorem dX8_checkNode_8 : decode cX8_checkNode 8 = .ok (.ifCond .ne 14, 3) := by decide +kernel
theorem dX8_checkNode_11 : decode cX8_checkNode 11 = .ok (.new 275, 3) := by decide +kernel
theorem dX8_checkNode_14 : decode cX8_checkNode 14 = .ok (.dup, 1) := by decide +kernel
theorem dX8_checkNode_15 : decode cX8_checkNode 15 = .ok (.ldc_w 391, 3) := by decide +kernel
theorem dX8_checkNode_18 : decode cX8_checkNode 18 = .ok (.invokespecial 279, 3) := by decide +kernel
theorem dX8_checkNode_21 : decode cX8_checkNode 21 = .ok (.athrow, 1) := by decide +kernel
theorem dX8_checkNode_22 : decode cX8_checkNode 22 = .ok (.return_, 1) := by decide +kernel
theorem dX8_checkPair_0 : decode cX8_checkPair 0 = .ok (.aload_n 0, 1) := by decide +kernel
theorem dX8_checkPair_1 : decode cX8_checkPair 1 = .ok (.iload_n 1, 1) := by decide +kernel
theorem dX8_checkPair_2 : decode cX8_checkPair 2 = .ok (.invokevirtual 72, 3) := by decide +kernel
theorem dX8_checkPair_5 : decode cX8_checkPair 5 = .ok (.aload_n 0, 1) := by decide +kernel
theorem dX8_checkPair_6 : decode cX8_checkPair 6 = .ok (.iload_n 2, 1) := by decide +kernel
theorem dX8_checkPair_7 : decode cX8_checkPair 7 = .ok (.invokevirtual 72, 3) := by decide +kernel
theorem dX8_checkPair_10 : decode cX8_checkPair 10 = .ok (.iload_n 1, 1) := by decide +kernel
theorem dX8_checkPair_11 : decode cX8_checkPair 11 = .ok (.iload_n 2, 1) := by decide +kernel
theorem dX8_checkPair_12 : decode cX8_checkPair 12 = .ok (.if_icmp .ne 14, 3) := by decide +kernel
theorem dX8_checkPair_15 : decode cX8_checkPair 15 = .ok (.new 53, 3) := by decide +kernel
theorem dX8_checkPair_18 : decode cX8_checkPair 18 = .ok (.dup, 1) := by decide +kernel
theorem dX8_checkPair_19 : decode cX8_checkPair 19 = .ok (.ldc_w 393, 3) := by decide +kernel
theorem dX8_checkPair_22 : decode cX8_checkPair 22 = .ok (.invokespecial 57, 3) := by decide +kernel
theorem dX8_checkPair_25 : decode cX8_checkPair 25 = .ok (.athrow, 1) := by decide +kernel
theorem dX8_checkPair_26 : decode cX8_checkPair 26 = .ok (.return_, 1) := by decide +kernel
theorem dX8_checkSilent_0 : decode cX8_checkSilent 0 = .ok (.aload_n 0, 1) := by decide +kernel
theorem dX8_checkSilent_1 : decode cX8_checkSilent 1 = .ok (.getfield 10, 3) := by decide +kernel
theorem dX8_checkSilent_4 : decode cX8_checkSilent 4 = .ok (.getfield 96, 3) := by decide +kernel
theorem dX8_checkSilent_7 : decode cX8_checkSilent 7 = .ok (.iload_n 1, 1) := by decide +kernel
theorem dX8_checkSilent_8 : decode cX8_checkSilent 8 = .ok (.aaload, 1) := by decide +kernel
theorem dX8_checkSilent_9 : decode cX8_checkSilent 9 = .ok (.invokevirtual 395, 3) := by decide +kernel
theorem dX8_checkSilent_12 : decode cX8_checkSilent 12 = .ok (.ifCond .eq 14, 3) := by decide +kernel
theorem dX8_checkSilent_15 : decode cX8_checkSilent 15 = .ok (.new 63, 3) := by decide +kernel
theorem dX8_checkSilent_18 : decode cX8_checkSilent 18 = .ok (.dup, 1) := by decide +kernel
theorem dX8_checkSilent_19 : decode cX8_checkSilent 19 = .ok (.ldc_w 398, 3) := by decide +kernel
theorem dX8_checkSilent_22 : decode cX8_checkSilent 22 = .ok (.invokespecial 67, 3) := by decide +kernel
theorem dX8_checkSilent_25 : decode cX8_checkSilent 25 = .ok (.athrow, 1) := by decide +kernel
theorem dX8_checkSilent_26 : decode cX8_checkSilent 26 = .ok (.return_, 1) := by decide +kernel
theorem dX8_isWithin_0 : decode cX8_isWithin 0 = .ok (.iload_n 0, 1) := by decide +kernel
theorem dX8_isWithin_1 : decode cX8_isWithin 1 = .ok (.iload_n 1, 1) := by decide +kernel
theorem dX8_isWithin_2 : decode cX8_isWithin 2 = .ok (.if_icmp .lt 12, 3) := by decide +kernel
theorem dX8_isWithin_5 : decode cX8_isWithin 5 = .ok (.iload_n 0, 1) := by decide +kernel
theorem dX8_isWithin_6 : decode cX8_isWithin 6 = .ok (.iload_n 2, 1) := by decide +kernel
theorem dX8_isWithin_7 : decode cX8_isWithin 7 = .ok (.if_icmp .gt 7, 3) := by decide +kernel
theorem dX8_isWithin_10 : decode cX8_isWithin 10 = .ok (.iconst 1, 1) := by decide +kernel
theorem dX8_isWithin_11 : decode cX8_isWithin 11 = .ok (.goto 4, 3) := by decide +kernel
theorem dX8_isWithin_14 : decode cX8_isWithin 14 = .ok (.iconst 0, 1) := by decide +kernel
theorem dX8_isWithin_15 : decode cX8_isWithin 15 = .ok (.ireturn, 1) := by decide +kernel
theorem dX8_isPlace_0 : decode cX8_isPlace 0 = .ok (.iload_n 0, 1) := by decide +kernel
theorem dX8_isPlace_1 : decode cX8_isPlace 1 = .ok (.iconst 0, 1) := by decide +kernel
theorem dX8_isPlace_2 : decode cX8_isPlace 2 = .ok (.bipush 29, 2) := by decide +kernel
theorem dX8_isPlace_4 : decode cX8_isPlace 4 = .ok (.invokestatic 109, 3) := by decide +kernel
theorem dX8_isPlace_7 : decode cX8_isPlace 7 = .ok (.ifCond .eq 17, 3) := by decide +kernel
theorem dX8_isPlace_10 : decode cX8_isPlace 10 = .ok (.iload_n 1, 1) := by decide +kernel
theorem dX8_isPlace_11 : decode cX8_isPlace 11 = .ok (.iconst 0, 1) := by decide +kernel
theorem dX8_isPlace_12 : decode cX8_isPlace 12 = .ok (.bipush 29, 2) := by decide +kernel
theorem dX8_isPlace_14 : decode cX8_isPlace 14 = .ok (.invokestatic 109, 3) := by decide +kernel
theorem dX8_isPlace_17 : decode cX8_isPlace 17 = .ok (.ifCond .eq 7, 3) := by decide +kernel
theorem dX8_isPlace_20 : decode cX8_isPlace 20 = .ok (.iconst 1, 1) := by decide +kernel
theorem dX8_isPlace_21 : decode cX8_isPlace 21 = .ok (.goto 4, 3) := by decide +kernel
theorem dX8_isPlace_24 : decode cX8_isPlace 24 = .ok (.iconst 0, 1) := by decide +kernel
theorem dX8_isPlace_25 : decode cX8_isPlace 25 = .ok (.ireturn, 1) := by decide +kernel
theorem dX8_isReach_0 : decode cX8_isReach 0 = .ok (.iload_n 0, 1) := by decide +kernel
theorem dX8_isReach_1 : decode cX8_isReach 1 = .ok (.iconst 1, 1) := by decide +kernel
theorem dX8_isReach_2 : decode cX8_isReach 2 = .ok (.bipush 42, 2) := by decide +kernel
theorem dX8_isReach_4 : decode cX8_isReach 4 = .ok (.invokestatic 109, 3) := by decide +kernel
theorem dX8_isReach_7 : decode cX8_isReach 7 = .ok (.ireturn, 1) := by decide +kernel
theorem dX8_isIn_0 : decode cX8_isIn 0 = .ok (.iload_n 0, 1) := by decide +kernel
theorem dX8_isIn_1 : decode cX8_isIn 1 = .ok (.iload_n 1, 1) := by decide +kernel
theorem dX8_isIn_2 : decode cX8_isIn 2 = .ok (.ishr, 1) := by decide +kernel
theorem dX8_isIn_3 : decode cX8_isIn 3 = .ok (.iconst 1, 1) := by decide +kernel
theorem dX8_isIn_4 : decode cX8_isIn 4 = .ok (.iand, 1) := by decide +kernel
theorem dX8_isIn_5 : decode cX8_isIn 5 = .ok (.ifCond .eq 7, 3) := by decide +kernel
theorem dX8_isIn_8 : decode cX8_isIn 8 = .ok (.iconst 1, 1) := by decide +kernel
theorem dX8_isIn_9 : decode cX8_isIn 9 = .ok (.goto 4, 3) := by decide +kernel
theorem dX8_isIn_12 : decode cX8_isIn 12 = .ok (.iconst 0, 1) := by decide +kernel
theorem dX8_isIn_13 : decode cX8_isIn 13 = .ok (.ireturn, 1) := by decide +kernel
theorem dX8_chanceOfOne_0 : decode cX8_chanceOfOne 0 = .ok (.iload_n 0, 1) := by decide +kernel
theorem dX8_chanceOfOne_1 : decode cX8_chanceOfOne 1 = .ok (.iload_n 1, 1) := by decide +kernel
theorem dX8_chanceOfOne_2 : decode cX8_chanceOfOne 2 = .ok (.imul, 1) := by decide +kernel
theorem dX8_chanceOfOne_3 : decode cX8_chanceOfOne 3 = .ok (.i2d, 1) := by decide +kernel
theorem dX8_chanceOfOne_4 : decode cX8_chanceOfOne 4 = .ok (.ldc2_w 400, 3) := by decide +kernel
theorem dX8_chanceOfOne_7 : decode cX8_chanceOfOne 7 = .ok (.ddiv, 1) := by decide +kernel
theorem dX8_chanceOfOne_8 : decode cX8_chanceOfOne 8 = .ok (.dstore_n 2, 1) := by decide +kernel
theorem dX8_chanceOfOne_9 : decode cX8_chanceOfOne 9 = .ok (.bipush 100, 2) := by decide +kernel
theorem dX8_chanceOfOne_11 : decode cX8_chanceOfOne 11 = .ok (.iload_n 1, 1) := by decide +kernel
theorem dX8_chanceOfOne_12 : decode cX8_chanceOfOne 12 = .ok (.isub, 1) := by decide +kernel
theorem dX8_chanceOfOne_13 : decode cX8_chanceOfOne 13 = .ok (.i2d, 1) := by decide +kernel
theorem dX8_chanceOfOne_14 : decode cX8_chanceOfOne 14 = .ok (.ldc2_w 400, 3) := by decide +kernel
theorem dX8_chanceOfOne_17 : decode cX8_chanceOfOne 17 = .ok (.ddiv, 1) := by decide +kernel
theorem dX8_chanceOfOne_18 : decode cX8_chanceOfOne 18 = .ok (.dstore 4, 2) := by decide +kernel
theorem dX8_chanceOfOne_20 : decode cX8_chanceOfOne 20 = .ok (.iconst 1, 1) := by decide +kernel
theorem dX8_chanceOfOne_21 : decode cX8_chanceOfOne 21 = .ok (.istore 6, 2) := by decide +kernel
theorem dX8_chanceOfOne_23 : decode cX8_chanceOfOne 23 = .ok (.iload 6, 2) := by decide +kernel
theorem dX8_chanceOfOne_25 : decode cX8_chanceOfOne 25 = .ok (.iload_n 0, 1) := by decide +kernel
theorem dX8_chanceOfOne_26 : decode cX8_chanceOfOne 26 = .ok (.if_icmp .ge 14, 3) := by decide +kernel
theorem dX8_chanceOfOne_29 : decode cX8_chanceOfOne 29 = .ok (.dload_n 2, 1) := by decide +kernel
theorem dX8_chanceOfOne_30 : decode cX8_chanceOfOne 30 = .ok (.dload 4, 2) := by decide +kernel
theorem dX8_chanceOfOne_32 : decode cX8_chanceOfOne 32 = .ok (.dmul, 1) := by decide +kernel
theorem dX8_chanceOfOne_33 : decode cX8_chanceOfOne 33 = .ok (.dstore_n 2, 1) := by decide +kernel
theorem dX8_chanceOfOne_34 : decode cX8_chanceOfOne 34 = .ok (.iinc 6 1, 3) := by decide +kernel
theorem dX8_chanceOfOne_37 : decode cX8_chanceOfOne 37 = .ok (.goto (-14), 3) := by decide +kernel
theorem dX8_chanceOfOne_40 : decode cX8_chanceOfOne 40 = .ok (.dload_n 2, 1) := by decide +kernel
theorem dX8_chanceOfOne_41 : decode cX8_chanceOfOne 41 = .ok (.dreturn, 1) := by decide +kernel
theorem dX9_init_0 : decode cX9_init 0 = .ok (.aload_n 0, 1) := by decide +kernel
theorem dX9_init_1 : decode cX9_init 1 = .ok (.invokespecial 1, 3) := by decide +kernel
theorem dX9_init_4 : decode cX9_init 4 = .ok (.return_, 1) := by decide +kernel
theorem dX10_init_0 : decode cX10_init 0 = .ok (.aload_n 0, 1) := by decide +kernel
theorem dX10_init_1 : decode cX10_init 1 = .ok (.invokespecial 3, 3) := by decide +kernel
theorem dX10_init_4 : decode cX10_init 4 = .ok (.aload_n 0, 1) := by decide +kernel
theorem dX10_init_5 : decode cX10_init 5 = .ok (.new 9, 3) := by decide +kernel
theorem dX10_init_8 : decode cX10_init 8 = .ok (.dup, 1) := by decide +kernel
theorem dX10_init_9 : decode cX10_init 9 = .ok (.invokespecial 11, 3) := by decide +kernel
theorem dX10_init_12 : decode cX10_init 12 = .ok (.putfield 12, 3) := by decide +kernel
theorem dX10_init_15 : decode cX10_init 15 = .ok (.aload_n 0, 1) := by decide +kernel
theorem dX10_init_16 : decode cX10_init 16 = .ok (.iconst (-1), 1) := by decide +kernel
theorem dX10_init_17 : decode cX10_init 17 = .ok (.putfield 18, 3) := by decide +kernel
theorem dX10_init_20 : decode cX10_init 20 = .ok (.aload_n 0, 1) := by decide +kernel
theorem dX10_init_21 : decode cX10_init 21 = .ok (.bipush 8, 2) := by decide +kernel
theorem dX10_init_23 : decode cX10_init 23 = .ok (.newarray .int, 2) := by decide +kernel
theorem dX10_init_25 : decode cX10_init 25 = .ok (.putfield 22, 3) := by decide +kernel
theorem dX10_init_28 : decode cX10_init 28 = .ok (.aload_n 0, 1) := by decide +kernel
theorem dX10_init_29 : decode cX10_init 29 = .ok (.bipush 8, 2) := by decide +kernel
theorem dX10_init_31 : decode cX10_init 31 = .ok (.newarray .int, 2) := by decide +kernel
theorem dX10_init_33 : decode cX10_init 33 = .ok (.putfield 26, 3) := by decide +kernel
theorem dX10_init_36 : decode cX10_init 36 = .ok (.aload_n 0, 1) := by decide +kernel
theorem dX10_init_37 : decode cX10_init 37 = .ok (.iload_n 1, 1) := by decide +kernel
theorem dX10_init_38 : decode cX10_init 38 = .ok (.putfield 29, 3) := by decide +kernel
theorem dX10_init_41 : decode cX10_init 41 = .ok (.aload_n 0, 1) := by decide +kernel
theorem dX10_init_42 : decode cX10_init 42 = .ok (.iload_n 2, 1) := by decide +kernel
theorem dX10_init_43 : decode cX10_init 43 = .ok (.putfield 32, 3) := by decide +kernel
theorem dX10_init_46 : decode cX10_init 46 = .ok (.aload_n 0, 1) := by decide +kernel
theorem dX10_init_47 : decode cX10_init 47 = .ok (.iload_n 3, 1) := by decide +kernel
theorem dX10_init_48 : decode cX10_init 48 = .ok (.putfield 35, 3) := by decide +kernel
theorem dX10_init_51 : decode cX10_init 51 = .ok (.aload_n 0, 1) := by decide +kernel
theorem dX10_init_52 : decode cX10_init 52 = .ok (.iload 4, 2) := by decide +kernel
theorem dX10_init_54 : decode cX10_init 54 = .ok (.putfield 38, 3) := by decide +kernel
theorem dX10_init_57 : decode cX10_init 57 = .ok (.iconst 0, 1) := by decide +kernel
theorem dX10_init_58 : decode cX10_init 58 = .ok (.istore 5, 2) := by decide +kernel
theorem dX10_init_60 : decode cX10_init 60 = .ok (.iload 5, 2) := by decide +kernel
theorem dX10_init_62 : decode cX10_init 62 = .ok (.bipush 8, 2) := by decide +kernel
theorem dX10_init_64 : decode cX10_init 64 = .ok (.if_icmp .ge 25, 3) := by decide +kernel
theorem dX10_init_67 : decode cX10_init 67 = .ok (.aload_n 0, 1) := by decide +kernel
theorem dX10_init_68 : decode cX10_init 68 = .ok (.getfield 22, 3) := by decide +kernel
theorem dX10_init_71 : decode cX10_init 71 = .ok (.iload 5, 2) := by decide +kernel
theorem dX10_init_73 : decode cX10_init 73 = .ok (.iconst (-1), 1) := by decide +kernel
theorem dX10_init_74 : decode cX10_init 74 = .ok (.iastore, 1) := by decide +kernel
theorem dX10_init_75 : decode cX10_init 75 = .ok (.aload_n 0, 1) := by decide +kernel
theorem dX10_init_76 : decode cX10_init 76 = .ok (.getfield 26, 3) := by decide +kernel
theorem dX10_init_79 : decode cX10_init 79 = .ok (.iload 5, 2) := by decide +kernel
theorem dX10_init_81 : decode cX10_init 81 = .ok (.iconst (-1), 1) := by decide +kernel
theorem dX10_init_82 : decode cX10_init 82 = .ok (.iastore, 1) := by decide +kernel
theorem dX10_init_83 : decode cX10_init 83 = .ok (.iinc 5 1, 3) := by decide +kernel
theorem dX10_init_86 : decode cX10_init 86 = .ok (.goto (-26), 3) := by decide +kernel
theorem dX10_init_89 : decode cX10_init 89 = .ok (.return_, 1) := by decide +kernel
theorem dX10_sends_0 : decode cX10_sends 0 = .ok (.aload_n 0, 1) := by decide +kernel
theorem dX10_sends_1 : decode cX10_sends 1 = .ok (.getfield 42, 3) := by decide +kernel
theorem dX10_sends_4 : decode cX10_sends 4 = .ok (.ifCond .le 7, 3) := by decide +kernel
theorem dX10_sends_7 : decode cX10_sends 7 = .ok (.iconst 1, 1) := by decide +kernel
theorem dX10_sends_8 : decode cX10_sends 8 = .ok (.goto 4, 3) := by decide +kernel
theorem dX10_sends_11 : decode cX10_sends 11 = .ok (.iconst 0, 1) := by decide +kernel
theorem dX10_sends_12 : decode cX10_sends 12 = .ok (.ireturn, 1) := by decide +kernel
theorem dX11_init_0 : decode cX11_init 0 = .ok (.aload_n 0, 1) := by decide +kernel
theorem dX11_init_1 : decode cX11_init 1 = .ok (.invokespecial 1, 3) := by decide +kernel
theorem dX11_init_4 : decode cX11_init 4 = .ok (.aload_n 0, 1) := by decide +kernel
theorem dX11_init_5 : decode cX11_init 5 = .ok (.bipush 41, 2) := by decide +kernel
theorem dX11_init_7 : decode cX11_init 7 = .ok (.putfield 7, 3) := by decide +kernel
theorem dX11_init_10 : decode cX11_init 10 = .ok (.aload_n 0, 1) := by decide +kernel
theorem dX11_init_11 : decode cX11_init 11 = .ok (.new 13, 3) := by decide +kernel
theorem dX11_init_14 : decode cX11_init 14 = .ok (.dup, 1) := by decide +kernel
theorem dX11_init_15 : decode cX11_init 15 = .ok (.invokespecial 15, 3) := by decide +kernel
theorem dX11_init_18 : decode cX11_init 18 = .ok (.putfield 16, 3) := by decide +kernel
theorem dX11_init_21 : decode cX11_init 21 = .ok (.aload_n 0, 1) := by decide +kernel
theorem dX11_init_22 : decode cX11_init 22 = .ok (.new 13, 3) := by decide +kernel
theorem dX11_init_25 : decode cX11_init 25 = .ok (.dup, 1) := by decide +kernel
theorem dX11_init_26 : decode cX11_init 26 = .ok (.invokespecial 15, 3) := by decide +kernel
theorem dX11_init_29 : decode cX11_init 29 = .ok (.putfield 20, 3) := by decide +kernel
theorem dX11_init_32 : decode cX11_init 32 = .ok (.aload_n 0, 1) := by decide +kernel
theorem dX11_init_33 : decode cX11_init 33 = .ok (.new 13, 3) := by decide +kernel
theorem dX11_init_36 : decode cX11_init 36 = .ok (.dup, 1) := by decide +kernel
theorem dX11_init_37 : decode cX11_init 37 = .ok (.invokespecial 15, 3) := by decide +kernel
theorem dX11_init_40 : decode cX11_init 40 = .ok (.putfield 23, 3) := by decide +kernel
theorem dX11_init_43 : decode cX11_init 43 = .ok (.return_, 1) := by decide +kernel
theorem dX11_isIn_0 : decode cX11_isIn 0 = .ok (.iload_n 0, 1) := by decide +kernel
theorem dX11_isIn_1 : decode cX11_isIn 1 = .ok (.iload_n 1, 1) := by decide +kernel
theorem dX11_isIn_2 : decode cX11_isIn 2 = .ok (.if_icmp .lt 12, 3) := by decide +kernel
theorem dX11_isIn_5 : decode cX11_isIn 5 = .ok (.iload_n 0, 1) := by decide +kernel
theorem dX11_isIn_6 : decode cX11_isIn 6 = .ok (.iload_n 2, 1) := by decide +kernel
theorem dX11_isIn_7 : decode cX11_isIn 7 = .ok (.if_icmp .gt 7, 3) := by decide +kernel
theorem dX11_isIn_10 : decode cX11_isIn 10 = .ok (.iconst 1, 1) := by decide +kernel
theorem dX11_isIn_11 : decode cX11_isIn 11 = .ok (.goto 4, 3) := by decide +kernel
theorem dX11_isIn_14 : decode cX11_isIn 14 = .ok (.iconst 0, 1) := by decide +kernel
theorem dX11_isIn_15 : decode cX11_isIn 15 = .ok (.ireturn, 1) := by decide +kernel
theorem dX11_one_0 : decode cX11_one 0 = .ok (.iload_n 0, 1) := by decide +kernel
theorem dX11_one_1 : decode cX11_one 1 = .ok (.ifCond .eq 7, 3) := by decide +kernel
theorem dX11_one_4 : decode cX11_one 4 = .ok (.iconst 1, 1) := by decide +kernel
theorem dX11_one_5 : decode cX11_one 5 = .ok (.goto 4, 3) := by decide +kernel
theorem dX11_one_8 : decode cX11_one 8 = .ok (.iconst 0, 1) := by decide +kernel
theorem dX11_one_9 : decode cX11_one 9 = .ok (.ireturn, 1) := by decide +kernel
theorem dX11_has_0 : decode cX11_has 0 = .ok (.iload_n 0, 1) := by decide +kernel
theorem dX11_has_1 : decode cX11_has 1 = .ok (.iload_n 1, 1) := by decide +kernel
theorem dX11_has_2 : decode cX11_has 2 = .ok (.ishr, 1) := by decide +kernel
theorem dX11_has_3 : decode cX11_has 3 = .ok (.iconst 1, 1) := by decide +kernel
theorem dX11_has_4 : decode cX11_has 4 = .ok (.iand, 1) := by decide +kernel
theorem dX11_has_5 : decode cX11_has 5 = .ok (.iconst 1, 1) := by decide +kernel
theorem dX11_has_6 : decode cX11_has 6 = .ok (.if_icmp .ne 7, 3) := by decide +kernel
theorem dX11_has_9 : decode cX11_has 9 = .ok (.iconst 1, 1) := by decide +kernel
theorem dX11_has_10 : decode cX11_has 10 = .ok (.goto 4, 3) := by decide +kernel
theorem dX11_has_13 : decode cX11_has 13 = .ok (.iconst 0, 1) := by decide +kernel
theorem dX11_has_14 : decode cX11_has 14 = .ok (.ireturn, 1) := by decide +kernel
theorem dX11_thrown_0 : decode cX11_thrown 0 = .ok (.aload_n 0, 1) := by decide +kernel
theorem dX11_thrown_1 : decode cX11_thrown 1 = .ok (.getfield 26, 3) := by decide +kernel
theorem dX11_thrown_4 : decode cX11_thrown 4 = .ok (.ireturn, 1) := by decide +kernel
theorem dX11_refuse_0 : decode cX11_refuse 0 = .ok (.iload_n 1, 1) := by decide +kernel
theorem dX11_refuse_1 : decode cX11_refuse 1 = .ok (.ifCond .eq 15, 3) := by decide +kernel
theorem dX11_refuse_4 : decode cX11_refuse 4 = .ok (.aload_n 0, 1) := by decide +kernel
theorem dX11_refuse_5 : decode cX11_refuse 5 = .ok (.getfield 26, 3) := by decide +kernel
theorem dX11_refuse_8 : decode cX11_refuse 8 = .ok (.ifCond .ne 8, 3) := by decide +kernel
theorem dX11_refuse_11 : decode cX11_refuse 11 = .ok (.aload_n 0, 1) := by decide +kernel
theorem dX11_refuse_12 : decode cX11_refuse 12 = .ok (.iload_n 2, 1) := by decide +kernel
theorem dX11_refuse_13 : decode cX11_refuse 13 = .ok (.putfield 26, 3) := by decide +kernel
theorem dX11_refuse_16 : decode cX11_refuse 16 = .ok (.aload_n 0, 1) := by decide +kernel
theorem dX11_refuse_17 : decode cX11_refuse 17 = .ok (.getfield 26, 3) := by decide +kernel
theorem dX11_refuse_20 : decode cX11_refuse 20 = .ok (.ifCond .le 7, 3) := by decide +kernel
theorem dX11_refuse_23 : decode cX11_refuse 23 = .ok (.iconst 1, 1) := by decide +kernel
theorem dX11_refuse_24 : decode cX11_refuse 24 = .ok (.goto 4, 3) := by decide +kernel
theorem dX11_refuse_27 : decode cX11_refuse 27 = .ok (.iconst 0, 1) := by decide +kernel
theorem dX11_refuse_28 : decode cX11_refuse 28 = .ok (.ireturn, 1) := by decide +kernel
theorem dX11_start_0 : decode cX11_start 0 = .ok (.aload_n 0, 1) := by decide +kernel
theorem dX11_start_1 : decode cX11_start 1 = .ok (.iconst 0, 1) := by decide +kernel
theorem dX11_start_2 : decode cX11_start 2 = .ok (.putfield 26, 3) := by decide +kernel
theorem dX11_start_5 : decode cX11_start 5 = .ok (.aload_n 0, 1) := by decide +kernel
theorem dX11_start_6 : decode cX11_start 6 = .ok (.iload_n 1, 1) := by decide +kernel
theorem dX11_start_7 : decode cX11_start 7 = .ok (.iload_n 2, 1) := by decide +kernel
theorem dX11_start_8 : decode cX11_start 8 = .ok (.invokevirtual 29, 3) := by decide +kernel
theorem dX11_start_11 : decode cX11_start 11 = .ok (.ireturn, 1) := by decide +kernel
theorem dX11_isNobody_0 : decode cX11_isNobody 0 = .ok (.iload_n 1, 1) := by decide +kernel
theorem dX11_isNobody_1 : decode cX11_isNobody 1 = .ok (.iconst 0, 1) := by decide +kernel
theorem dX11_isNobody_2 : decode cX11_isNobody 2 = .ok (.aload_n 0, 1) := by decide +kernel
theorem dX11_isNobody_3 : decode cX11_isNobody 3 = .ok (.getfield 16, 3) := by decide +kernel
theorem dX11_isNobody_6 : decode cX11_isNobody 6 = .ok (.invokevirtual 33, 3) := by decide +kernel
theorem dX11_isNobody_9 : decode cX11_isNobody 9 = .ok (.iconst 1, 1) := by decide +kernel
theorem dX11_isNobody_10 : decode cX11_isNobody 10 = .ok (.isub, 1) := by decide +kernel
theorem dX11_isNobody_11 : decode cX11_isNobody 11 = .ok (.invokestatic 37, 3) := by decide +kernel
theorem dX11_isNobody_14 : decode cX11_isNobody 14 = .ok (.ifCond .ne 7, 3) := by decide +kernel
theorem dX11_isNobody_17 : decode cX11_isNobody 17 = .ok (.iconst 1, 1) := by decide +kernel
theorem dX11_isNobody_18 : decode cX11_isNobody 18 = .ok (.goto 4, 3) := by decide +kernel
theorem dX11_isNobody_21 : decode cX11_isNobody 21 = .ok (.iconst 0, 1) := by decide +kernel
theorem dX11_isNobody_22 : decode cX11_isNobody 22 = .ok (.ireturn, 1) := by decide +kernel
theorem dX11_draw_0 : decode cX11_draw 0 = .ok (.aload_n 0, 1) := by decide +kernel
theorem dX11_draw_1 : decode cX11_draw 1 = .ok (.bipush 109, 2) := by decide +kernel
theorem dX11_draw_3 : decode cX11_draw 3 = .ok (.aload_n 0, 1) := by decide +kernel
theorem dX11_draw_4 : decode cX11_draw 4 = .ok (.getfield 7, 3) := by decide +kernel
theorem dX11_draw_7 : decode cX11_draw 7 = .ok (.imul, 1) := by decide +kernel
theorem dX11_draw_8 : decode cX11_draw 8 = .ok (.bipush 57, 2) := by decide +kernel
theorem dX11_draw_10 : decode cX11_draw 10 = .ok (.iadd, 1) := by decide +kernel
theorem dX11_draw_11 : decode cX11_draw 11 = .ok (.sipush 512, 3) := by decide +kernel
theorem dX11_draw_14 : decode cX11_draw 14 = .ok (.irem, 1) := by decide +kernel
theorem dX11_draw_15 : decode cX11_draw 15 = .ok (.putfield 7, 3) := by decide +kernel
theorem dX11_draw_18 : decode cX11_draw 18 = .ok (.aload_n 0, 1) := by decide +kernel
theorem dX11_draw_19 : decode cX11_draw 19 = .ok (.getfield 7, 3) := by decide +kernel
theorem dX11_draw_22 : decode cX11_draw 22 = .ok (.iload_n 1, 1) := by decide +kernel
theorem dX11_draw_23 : decode cX11_draw 23 = .ok (.imul, 1) := by decide +kernel
theorem dX11_draw_24 : decode cX11_draw 24 = .ok (.sipush 512, 3) := by decide +kernel
theorem dX11_draw_27 : decode cX11_draw 27 = .ok (.idiv, 1) := by decide +kernel
theorem dX11_draw_28 : decode cX11_draw 28 = .ok (.ireturn, 1) := by decide +kernel
theorem dX11_far_0 : decode cX11_far 0 = .ok (.aload_n 0, 1) := by decide +kernel
theorem dX11_far_1 : decode cX11_far 1 = .ok (.getfield 16, 3) := by decide +kernel
theorem dX11_far_4 : decode cX11_far 4 = .ok (.iload_n 1, 1) := by decide +kernel
theorem dX11_far_5 : decode cX11_far 5 = .ok (.invokevirtual 41, 3) := by decide +kernel
theorem dX11_far_8 : decode cX11_far 8 = .ok (.checkcast 45, 3) := by decide +kernel
theorem dX11_far_11 : decode cX11_far 11 = .ok (.getfield 47, 3) := by decide +kernel
theorem dX11_far_14 : decode cX11_far 14 = .ok (.aload_n 0, 1) := by decide +kernel
theorem dX11_far_15 : decode cX11_far 15 = .ok (.getfield 16, 3) := by decide +kernel
theorem dX11_far_18 : decode cX11_far 18 = .ok (.iload_n 2, 1) := by decide +kernel
theorem dX11_far_19 : decode cX11_far 19 = .ok (.invokevirtual 41, 3) := by decide +kernel
theorem dX11_far_22 : decode cX11_far 22 = .ok (.checkcast 45, 3) := by decide +kernel
theorem dX11_far_25 : decode cX11_far 25 = .ok (.getfield 47, 3) := by decide +kernel
theorem dX11_far_28 : decode cX11_far 28 = .ok (.isub, 1) := by decide +kernel
theorem dX11_far_29 : decode cX11_far 29 = .ok (.istore_n 3, 1) := by decide +kernel
theorem dX11_far_30 : decode cX11_far 30 = .ok (.aload_n 0, 1) := by decide +kernel
theorem dX11_far_31 : decode cX11_far 31 = .ok (.getfield 16, 3) := by decide +kernel
theorem dX11_far_34 : decode cX11_far 34 = .ok (.iload_n 1, 1) := by decide +kernel
theorem dX11_far_35 : decode cX11_far 35 = .ok (.invokevirtual 41, 3) := by decide +kernel
theorem dX11_far_38 : decode cX11_far 38 = .ok (.checkcast 45, 3) := by decide +kernel
theorem dX11_far_41 : decode cX11_far 41 = .ok (.getfield 50, 3) := by decide +kernel
theorem dX11_far_44 : decode cX11_far 44 = .ok (.aload_n 0, 1) := by decide +kernel
theorem dX11_far_45 : decode cX11_far 45 = .ok (.getfield 16, 3) := by decide +kernel
theorem dX11_far_48 : decode cX11_far 48 = .ok (.iload_n 2, 1) := by decide +kernel
theorem dX11_far_49 : decode cX11_far 49 = .ok (.invokevirtual 41, 3) := by decide +kernel
theorem dX11_far_52 : decode cX11_far 52 = .ok (.checkcast 45, 3) := by decide +kernel
theorem dX11_far_55 : decode cX11_far 55 = .ok (.getfield 50, 3) := by decide +kernel
theorem dX11_far_58 : decode cX11_far 58 = .ok (.isub, 1) := by decide +kernel
theorem dX11_far_59 : decode cX11_far 59 = .ok (.istore 4, 2) := by decide +kernel
theorem dX11_far_61 : decode cX11_far 61 = .ok (.iload_n 3, 1) := by decide +kernel
theorem dX11_far_62 : decode cX11_far 62 = .ok (.iload_n 3, 1) := by decide +kernel
theorem dX11_far_63 : decode cX11_far 63 = .ok (.imul, 1) := by decide +kernel
theorem dX11_far_64 : decode cX11_far 64 = .ok (.iload 4, 2) := by decide +kernel
theorem dX11_far_66 : decode cX11_far 66 = .ok (.iload 4, 2) := by decide +kernel
theorem dX11_far_68 : decode cX11_far 68 = .ok (.imul, 1) := by decide +kernel
theorem dX11_far_69 : decode cX11_far 69 = .ok (.iadd, 1) := by decide +kernel
theorem dX11_far_70 : decode cX11_far 70 = .ok (.ireturn, 1) := by decide +kernel
theorem dX11_hearsIt_0 : decode cX11_hearsIt 0 = .ok (.iload_n 1, 1) := by decide +kernel
theorem dX11_hearsIt_1 : decode cX11_hearsIt 1 = .ok (.iload_n 2, 1) := by decide +kernel
theorem dX11_hearsIt_2 : decode cX11_hearsIt 2 = .ok (.if_icmp .eq 45, 3) := by decide +kernel
theorem dX11_hearsIt_5 : decode cX11_hearsIt 5 = .ok (.aload_n 0, 1) := by decide +kernel
theorem dX11_hearsIt_6 : decode cX11_hearsIt 6 = .ok (.iload_n 1, 1) := by decide +kernel
theorem dX11_hearsIt_7 : decode cX11_hearsIt 7 = .ok (.iload_n 2, 1) := by decide +kernel
theorem dX11_hearsIt_8 : decode cX11_hearsIt 8 = .ok (.invokevirtual 53, 3) := by decide +kernel
theorem dX11_hearsIt_11 : decode cX11_hearsIt 11 = .ok (.aload_n 0, 1) := by decide +kernel
theorem dX11_hearsIt_12 : decode cX11_hearsIt 12 = .ok (.getfield 16, 3) := by decide +kernel
theorem dX11_hearsIt_15 : decode cX11_hearsIt 15 = .ok (.iload_n 2, 1) := by decide +kernel
theorem dX11_hearsIt_16 : decode cX11_hearsIt 16 = .ok (.invokevirtual 41, 3) := by decide +kernel
theorem dX11_hearsIt_19 : decode cX11_hearsIt 19 = .ok (.checkcast 45, 3) := by decide +kernel
theorem dX11_hearsIt_22 : decode cX11_hearsIt 22 = .ok (.getfield 57, 3) := by decide +kernel
theorem dX11_hearsIt_25 : decode cX11_hearsIt 25 = .ok (.aload_n 0, 1) := by decide +kernel
theorem dX11_hearsIt_26 : decode cX11_hearsIt 26 = .ok (.getfield 16, 3) := by decide +kernel
theorem dX11_hearsIt_29 : decode cX11_hearsIt 29 = .ok (.iload_n 2, 1) := by decide +kernel
theorem dX11_hearsIt_30 : decode cX11_hearsIt 30 = .ok (.invokevirtual 41, 3) := by decide +kernel
theorem dX11_hearsIt_33 : decode cX11_hearsIt 33 = .ok (.checkcast 45, 3) := by decide +kernel
theorem dX11_hearsIt_36 : decode cX11_hearsIt 36 = .ok (.getfield 57, 3) := by decide +kernel
theorem dX11_hearsIt_39 : decode cX11_hearsIt 39 = .ok (.imul, 1) := by decide +kernel
theorem dX11_hearsIt_40 : decode cX11_hearsIt 40 = .ok (.if_icmp .gt 7, 3) := by decide +kernel
theorem dX11_hearsIt_43 : decode cX11_hearsIt 43 = .ok (.iconst 1, 1) := by decide +kernel
theorem dX11_hearsIt_44 : decode cX11_hearsIt 44 = .ok (.goto 4, 3) := by decide +kernel
theorem dX11_hearsIt_47 : decode cX11_hearsIt 47 = .ok (.iconst 0, 1) := by decide +kernel
theorem dX11_hearsIt_48 : decode cX11_hearsIt 48 = .ok (.ireturn, 1) := by decide +kernel
theorem dX11_areLinked_0 : decode cX11_areLinked 0 = .ok (.aload_n 0, 1) := by decide +kernel
theorem dX11_areLinked_1 : decode cX11_areLinked 1 = .ok (.iload_n 1, 1) := by decide +kernel
theorem dX11_areLinked_2 : decode cX11_areLinked 2 = .ok (.iload_n 2, 1) := by decide +kernel
theorem dX11_areLinked_3 : decode cX11_areLinked 3 = .ok (.invokevirtual 60, 3) := by decide +kernel
theorem dX11_areLinked_6 : decode cX11_areLinked 6 = .ok (.ifCond .eq 16, 3) := by decide +kernel
theorem dX11_areLinked_9 : decode cX11_areLinked 9 = .ok (.aload_n 0, 1) := by decide +kernel
theorem dX11_areLinked_10 : decode cX11_areLinked 10 = .ok (.iload_n 2, 1) := by decide +kernel
theorem dX11_areLinked_11 : decode cX11_areLinked 11 = .ok (.iload_n 1, 1) := by decide +kernel
theorem dX11_areLinked_12 : decode cX11_areLinked 12 = .ok (.invokevirtual 60, 3) := by decide +kernel
theorem dX11_areLinked_15 : decode cX11_areLinked 15 = .ok (.ifCond .eq 7, 3) := by decide +kernel
theorem dX11_areLinked_18 : decode cX11_areLinked 18 = .ok (.iconst 1, 1) := by decide +kernel
theorem dX11_areLinked_19 : decode cX11_areLinked 19 = .ok (.goto 4, 3) := by decide +kernel
theorem dX11_areLinked_22 : decode cX11_areLinked 22 = .ok (.iconst 0, 1) := by decide +kernel
theorem dX11_areLinked_23 : decode cX11_areLinked 23 = .ok (.ireturn, 1) := by decide +kernel
theorem dX11_links_0 : decode cX11_links 0 = .ok (.iconst 0, 1) := by decide +kernel
theorem dX11_links_1 : decode cX11_links 1 = .ok (.istore_n 2, 1) := by decide +kernel
theorem dX11_links_2 : decode cX11_links 2 = .ok (.iconst 0, 1) := by decide +kernel
theorem dX11_links_3 : decode cX11_links 3 = .ok (.istore_n 3, 1) := by decide +kernel
theorem dX11_links_4 : decode cX11_links 4 = .ok (.iload_n 3, 1) := by decide +kernel
theorem dX11_links_5 : decode cX11_links 5 = .ok (.aload_n 0, 1) := by decide +kernel
theorem dX11_links_6 : decode cX11_links 6 = .ok (.getfield 16, 3) := by decide +kernel
theorem dX11_links_9 : decode cX11_links 9 = .ok (.invokevirtual 33, 3) := by decide +kernel
theorem dX11_links_12 : decode cX11_links 12 = .ok (.if_icmp .ge 23, 3) := by decide +kernel
theorem dX11_links_15 : decode cX11_links 15 = .ok (.iload_n 2, 1) := by decide +kernel
theorem dX11_links_16 : decode cX11_links 16 = .ok (.aload_n 0, 1) := by decide +kernel
theorem dX11_links_17 : decode cX11_links 17 = .ok (.iload_n 1, 1) := by decide +kernel
theorem dX11_links_18 : decode cX11_links 18 = .ok (.iload_n 3, 1) := by decide +kernel
theorem dX11_links_19 : decode cX11_links 19 = .ok (.invokevirtual 64, 3) := by decide +kernel
theorem dX11_links_22 : decode cX11_links 22 = .ok (.invokestatic 67, 3) := by decide +kernel
theorem dX11_links_25 : decode cX11_links 25 = .ok (.iload_n 3, 1) := by decide +kernel
theorem dX11_links_26 : decode cX11_links 26 = .ok (.ishl, 1) := by decide +kernel
theorem dX11_links_27 : decode cX11_links 27 = .ok (.ior, 1) := by decide +kernel
theorem dX11_links_28 : decode cX11_links 28 = .ok (.istore_n 2, 1) := by decide +kernel
theorem dX11_links_29 : decode cX11_links 29 = .ok (.iinc 3 1, 3) := by decide +kernel
theorem dX11_links_32 : decode cX11_links 32 = .ok (.goto (-28), 3) := by decide +kernel
theorem dX11_links_35 : decode cX11_links 35 = .ok (.iload_n 2, 1) := by decide +kernel
theorem dX11_links_36 : decode cX11_links 36 = .ok (.ireturn, 1) := by decide +kernel
theorem dX11_node_0 : decode cX11_node 0 = .ok (.aload_n 0, 1) := by decide +kernel
theorem dX11_node_1 : decode cX11_node 1 = .ok (.iload_n 1, 1) := by decide +kernel
theorem dX11_node_2 : decode cX11_node 2 = .ok (.iconst 0, 1) := by decide +kernel
theorem dX11_node_3 : decode cX11_node 3 = .ok (.bipush 29, 2) := by decide +kernel
theorem dX11_node_5 : decode cX11_node 5 = .ok (.invokestatic 37, 3) := by decide +kernel
theorem dX11_node_8 : decode cX11_node 8 = .ok (.ifCond .eq 23, 3) := by decide +kernel
theorem dX11_node_11 : decode cX11_node 11 = .ok (.iload_n 2, 1) := by decide +kernel
theorem dX11_node_12 : decode cX11_node 12 = .ok (.iconst 0, 1) := by decide +kernel
theorem dX11_node_13 : decode cX11_node 13 = .ok (.bipush 29, 2) := by decide +kernel
theorem dX11_node_15 : decode cX11_node 15 = .ok (.invokestatic 37, 3) := by decide +kernel
theorem dX11_node_18 : decode cX11_node 18 = .ok (.ifCond .eq 13, 3) := by decide +kernel
theorem dX11_node_21 : decode cX11_node 21 = .ok (.iload_n 3, 1) := by decide +kernel
theorem dX11_node_22 : decode cX11_node 22 = .ok (.iconst 1, 1) := by decide +kernel
theorem dX11_node_23 : decode cX11_node 23 = .ok (.bipush 42, 2) := by decide +kernel
theorem dX11_node_25 : decode cX11_node 25 = .ok (.invokestatic 37, 3) := by decide +kernel
theorem dX11_node_28 : decode cX11_node 28 = .ok (.ifCond .ne 7, 3) := by decide +kernel
theorem dX11_node_31 : decode cX11_node 31 = .ok (.iconst 1, 1) := by decide +kernel
theorem dX11_node_32 : decode cX11_node 32 = .ok (.goto 4, 3) := by decide +kernel
theorem dX11_node_35 : decode cX11_node 35 = .ok (.iconst 0, 1) := by decide +kernel
theorem dX11_node_36 : decode cX11_node 36 = .ok (.iconst 1, 1) := by decide +kernel
theorem dX11_node_37 : decode cX11_node 37 = .ok (.invokevirtual 71, 3) := by decide +kernel
theorem dX11_node_40 : decode cX11_node 40 = .ok (.ifCond .ne 28, 3) := by decide +kernel
theorem dX11_node_43 : decode cX11_node 43 = .ok (.aload_n 0, 1) := by decide +kernel
theorem dX11_node_44 : decode cX11_node 44 = .ok (.aload_n 0, 1) := by decide +kernel
theorem dX11_node_45 : decode cX11_node 45 = .ok (.getfield 16, 3) := by decide +kernel
theorem dX11_node_48 : decode cX11_node 48 = .ok (.invokevirtual 33, 3) := by decide +kernel
theorem dX11_node_51 : decode cX11_node 51 = .ok (.bipush 8, 2) := by decide +kernel
theorem dX11_node_53 : decode cX11_node 53 = .ok (.if_icmp .ne 7, 3) := by decide +kernel
theorem dX11_node_56 : decode cX11_node 56 = .ok (.iconst 1, 1) := by decide +kernel
theorem dX11_node_57 : decode cX11_node 57 = .ok (.goto 4, 3) := by decide +kernel
theorem dX11_node_60 : decode cX11_node 60 = .ok (.iconst 0, 1) := by decide +kernel
theorem dX11_node_61 : decode cX11_node 61 = .ok (.iconst 2, 1) := by decide +kernel
theorem dX11_node_62 : decode cX11_node 62 = .ok (.invokevirtual 29, 3) := by decide +kernel
theorem dX11_node_65 : decode cX11_node 65 = .ok (.ifCond .eq 5, 3) := by decide +kernel
theorem dX11_node_68 : decode cX11_node 68 = .ok (.iconst 0, 1) := by decide +kernel
theorem dX11_node_69 : decode cX11_node 69 = .ok (.ireturn, 1) := by decide +kernel
theorem dX11_node_70 : decode cX11_node 70 = .ok (.aload_n 0, 1) := by decide +kernel
theorem dX11_node_71 : decode cX11_node 71 = .ok (.getfield 16, 3) := by decide +kernel
theorem dX11_node_74 : decode cX11_node 74 = .ok (.new 45, 3) := by decide +kernel
theorem dX11_node_77 : decode cX11_node 77 = .ok (.dup, 1) := by decide +kernel
theorem dX11_node_78 : decode cX11_node 78 = .ok (.iload_n 1, 1) := by decide +kernel
theorem dX11_node_79 : decode cX11_node 79 = .ok (.iload_n 2, 1) := by decide +kernel
theorem dX11_node_80 : decode cX11_node 80 = .ok (.iload_n 3, 1) := by decide +kernel
theorem dX11_node_81 : decode cX11_node 81 = .ok (.iload 4, 2) := by decide +kernel
theorem dX11_node_83 : decode cX11_node 83 = .ok (.invokespecial 74, 3) := by decide +kernel
theorem dX11_node_86 : decode cX11_node 86 = .ok (.invokevirtual 77, 3) := by decide +kernel
theorem dX11_node_89 : decode cX11_node 89 = .ok (.pop, 1) := by decide +kernel
theorem dX11_node_90 : decode cX11_node 90 = .ok (.aload_n 0, 1) := by decide +kernel
theorem dX11_node_91 : decode cX11_node 91 = .ok (.getfield 16, 3) := by decide +kernel
theorem dX11_node_94 : decode cX11_node 94 = .ok (.invokevirtual 33, 3) := by decide +kernel
theorem dX11_node_97 : decode cX11_node 97 = .ok (.iconst 1, 1) := by decide +kernel
theorem dX11_node_98 : decode cX11_node 98 = .ok (.isub, 1) := by decide +kernel
theorem dX11_node_99 : decode cX11_node 99 = .ok (.ireturn, 1) := by decide +kernel
theorem dX11_move_0 : decode cX11_move 0 = .ok (.aload_n 0, 1) := by decide +kernel
theorem dX11_move_1 : decode cX11_move 1 = .ok (.aload_n 0, 1) := by decide +kernel
theorem dX11_move_2 : decode cX11_move 2 = .ok (.iload_n 1, 1) := by decide +kernel
theorem dX11_move_3 : decode cX11_move 3 = .ok (.invokevirtual 81, 3) := by decide +kernel
theorem dX11_move_6 : decode cX11_move 6 = .ok (.iconst 1, 1) := by decide +kernel
theorem dX11_move_7 : decode cX11_move 7 = .ok (.invokevirtual 71, 3) := by decide +kernel
theorem dX11_move_10 : decode cX11_move 10 = .ok (.ifCond .ne 58, 3) := by decide +kernel
theorem dX11_move_13 : decode cX11_move 13 = .ok (.aload_n 0, 1) := by decide +kernel
theorem dX11_move_14 : decode cX11_move 14 = .ok (.iload_n 2, 1) := by decide +kernel
theorem dX11_move_15 : decode cX11_move 15 = .ok (.iconst 0, 1) := by decide +kernel
theorem dX11_move_16 : decode cX11_move 16 = .ok (.bipush 29, 2) := by decide +kernel
theorem dX11_move_18 : decode cX11_move 18 = .ok (.invokestatic 37, 3) := by decide +kernel
theorem dX11_move_21 : decode cX11_move 21 = .ok (.ifCond .eq 13, 3) := by decide +kernel
theorem dX11_move_24 : decode cX11_move 24 = .ok (.iload_n 3, 1) := by decide +kernel
theorem dX11_move_25 : decode cX11_move 25 = .ok (.iconst 0, 1) := by decide +kernel
theorem dX11_move_26 : decode cX11_move 26 = .ok (.bipush 29, 2) := by decide +kernel
theorem dX11_move_28 : decode cX11_move 28 = .ok (.invokestatic 37, 3) := by decide +kernel
theorem dX11_move_31 : decode cX11_move 31 = .ok (.ifCond .ne 7, 3) := by decide +kernel
theorem dX11_move_34 : decode cX11_move 34 = .ok (.iconst 1, 1) := by decide +kernel
theorem dX11_move_35 : decode cX11_move 35 = .ok (.goto 4, 3) := by decide +kernel
theorem dX11_move_38 : decode cX11_move 38 = .ok (.iconst 0, 1) := by decide +kernel
theorem dX11_move_39 : decode cX11_move 39 = .ok (.iconst 2, 1) := by decide +kernel
theorem dX11_move_40 : decode cX11_move 40 = .ok (.invokevirtual 29, 3) := by decide +kernel
theorem dX11_move_43 : decode cX11_move 43 = .ok (.ifCond .ne 25, 3) := by decide +kernel
theorem dX11_move_46 : decode cX11_move 46 = .ok (.aload_n 0, 1) := by decide +kernel
theorem dX11_move_47 : decode cX11_move 47 = .ok (.aload_n 0, 1) := by decide +kernel
theorem dX11_move_48 : decode cX11_move 48 = .ok (.getfield 16, 3) := by decide +kernel
theorem dX11_move_51 : decode cX11_move 51 = .ok (.iload_n 1, 1) := by decide +kernel
theorem dX11_move_52 : decode cX11_move 52 = .ok (.invokevirtual 41, 3) := by decide +kernel
theorem dX11_move_55 : decode cX11_move 55 = .ok (.checkcast 45, 3) := by decide +kernel
theorem dX11_move_58 : decode cX11_move 58 = .ok (.invokevirtual 85, 3) := by decide +kernel
theorem dX11_move_61 : decode cX11_move 61 = .ok (.iconst 3, 1) := by decide +kernel
theorem dX11_move_62 : decode cX11_move 62 = .ok (.invokevirtual 29, 3) := by decide +kernel
theorem dX11_move_65 : decode cX11_move 65 = .ok (.ifCond .eq 5, 3) := by decide +kernel
theorem dX11_move_68 : decode cX11_move 68 = .ok (.iconst 0, 1) := by decide +kernel
theorem dX11_move_69 : decode cX11_move 69 = .ok (.ireturn, 1) := by decide +kernel
theorem dX11_move_70 : decode cX11_move 70 = .ok (.aload_n 0, 1) := by decide +kernel
theorem dX11_move_71 : decode cX11_move 71 = .ok (.getfield 16, 3) := by decide +kernel
theorem dX11_move_74 : decode cX11_move 74 = .ok (.iload_n 1, 1) := by decide +kernel
theorem dX11_move_75 : decode cX11_move 75 = .ok (.invokevirtual 41, 3) := by decide +kernel
theorem dX11_move_78 : decode cX11_move 78 = .ok (.checkcast 45, 3) := by decide +kernel
theorem dX11_move_81 : decode cX11_move 81 = .ok (.iload_n 2, 1) := by decide +kernel
theorem dX11_move_82 : decode cX11_move 82 = .ok (.putfield 47, 3) := by decide +kernel
theorem dX11_move_85 : decode cX11_move 85 = .ok (.aload_n 0, 1) := by decide +kernel
theorem dX11_move_86 : decode cX11_move 86 = .ok (.getfield 16, 3) := by decide +kernel
theorem dX11_move_89 : decode cX11_move 89 = .ok (.iload_n 1, 1) := by decide +kernel
theorem dX11_move_90 : decode cX11_move 90 = .ok (.invokevirtual 41, 3) := by decide +kernel
theorem dX11_move_93 : decode cX11_move 93 = .ok (.checkcast 45, 3) := by decide +kernel
theorem dX11_move_96 : decode cX11_move 96 = .ok (.iload_n 3, 1) := by decide +kernel
theorem dX11_move_97 : decode cX11_move 97 = .ok (.putfield 50, 3) := by decide +kernel
theorem dX11_move_100 : decode cX11_move 100 = .ok (.aload_n 0, 1) := by decide +kernel
theorem dX11_move_101 : decode cX11_move 101 = .ok (.iload_n 1, 1) := by decide +kernel
theorem dX11_move_102 : decode cX11_move 102 = .ok (.invokevirtual 89, 3) := by decide +kernel
theorem dX11_move_105 : decode cX11_move 105 = .ok (.invokestatic 93, 3) := by decide +kernel
theorem dX11_move_108 : decode cX11_move 108 = .ok (.ireturn, 1) := by decide +kernel
theorem dX11_tune_0 : decode cX11_tune 0 = .ok (.aload_n 0, 1) := by decide +kernel
theorem dX11_tune_1 : decode cX11_tune 1 = .ok (.aload_n 0, 1) := by decide +kernel
theorem dX11_tune_2 : decode cX11_tune 2 = .ok (.iload_n 1, 1) := by decide +kernel
theorem dX11_tune_3 : decode cX11_tune 3 = .ok (.invokevirtual 81, 3) := by decide +kernel
theorem dX11_tune_6 : decode cX11_tune 6 = .ok (.iconst 1, 1) := by decide +kernel
theorem dX11_tune_7 : decode cX11_tune 7 = .ok (.invokevirtual 71, 3) := by decide +kernel
theorem dX11_tune_10 : decode cX11_tune 10 = .ok (.ifCond .ne 48, 3) := by decide +kernel
theorem dX11_tune_13 : decode cX11_tune 13 = .ok (.aload_n 0, 1) := by decide +kernel
theorem dX11_tune_14 : decode cX11_tune 14 = .ok (.iload_n 2, 1) := by decide +kernel
theorem dX11_tune_15 : decode cX11_tune 15 = .ok (.iconst 1, 1) := by decide +kernel
theorem dX11_tune_16 : decode cX11_tune 16 = .ok (.bipush 42, 2) := by decide +kernel
theorem dX11_tune_18 : decode cX11_tune 18 = .ok (.invokestatic 37, 3) := by decide +kernel
theorem dX11_tune_21 : decode cX11_tune 21 = .ok (.ifCond .ne 7, 3) := by decide +kernel
theorem dX11_tune_24 : decode cX11_tune 24 = .ok (.iconst 1, 1) := by decide +kernel
theorem dX11_tune_25 : decode cX11_tune 25 = .ok (.goto 4, 3) := by decide +kernel
theorem dX11_tune_28 : decode cX11_tune 28 = .ok (.iconst 0, 1) := by decide +kernel
theorem dX11_tune_29 : decode cX11_tune 29 = .ok (.iconst 2, 1) := by decide +kernel
theorem dX11_tune_30 : decode cX11_tune 30 = .ok (.invokevirtual 29, 3) := by decide +kernel
theorem dX11_tune_33 : decode cX11_tune 33 = .ok (.ifCond .ne 25, 3) := by decide +kernel
theorem dX11_tune_36 : decode cX11_tune 36 = .ok (.aload_n 0, 1) := by decide +kernel
theorem dX11_tune_37 : decode cX11_tune 37 = .ok (.aload_n 0, 1) := by decide +kernel
theorem dX11_tune_38 : decode cX11_tune 38 = .ok (.getfield 16, 3) := by decide +kernel
theorem dX11_tune_41 : decode cX11_tune 41 = .ok (.iload_n 1, 1) := by decide +kernel
theorem dX11_tune_42 : decode cX11_tune 42 = .ok (.invokevirtual 41, 3) := by decide +kernel
theorem dX11_tune_45 : decode cX11_tune 45 = .ok (.checkcast 45, 3) := by decide +kernel
theorem dX11_tune_48 : decode cX11_tune 48 = .ok (.invokevirtual 85, 3) := by decide +kernel
theorem dX11_tune_51 : decode cX11_tune 51 = .ok (.iconst 3, 1) := by decide +kernel
theorem dX11_tune_52 : decode cX11_tune 52 = .ok (.invokevirtual 29, 3) := by decide +kernel
theorem dX11_tune_55 : decode cX11_tune 55 = .ok (.ifCond .eq 5, 3) := by decide +kernel
theorem dX11_tune_58 : decode cX11_tune 58 = .ok (.iconst 0, 1) := by decide +kernel
theorem dX11_tune_59 : decode cX11_tune 59 = .ok (.ireturn, 1) := by decide +kernel
theorem dX11_tune_60 : decode cX11_tune 60 = .ok (.aload_n 0, 1) := by decide +kernel
theorem dX11_tune_61 : decode cX11_tune 61 = .ok (.getfield 16, 3) := by decide +kernel
theorem dX11_tune_64 : decode cX11_tune 64 = .ok (.iload_n 1, 1) := by decide +kernel
theorem dX11_tune_65 : decode cX11_tune 65 = .ok (.invokevirtual 41, 3) := by decide +kernel
theorem dX11_tune_68 : decode cX11_tune 68 = .ok (.checkcast 45, 3) := by decide +kernel
theorem dX11_tune_71 : decode cX11_tune 71 = .ok (.getfield 57, 3) := by decide +kernel
theorem dX11_tune_74 : decode cX11_tune 74 = .ok (.istore 4, 2) := by decide +kernel
theorem dX11_tune_76 : decode cX11_tune 76 = .ok (.aload_n 0, 1) := by decide +kernel
theorem dX11_tune_77 : decode cX11_tune 77 = .ok (.getfield 16, 3) := by decide +kernel
theorem dX11_tune_80 : decode cX11_tune 80 = .ok (.iload_n 1, 1) := by decide +kernel
theorem dX11_tune_81 : decode cX11_tune 81 = .ok (.invokevirtual 41, 3) := by decide +kernel
theorem dX11_tune_84 : decode cX11_tune 84 = .ok (.checkcast 45, 3) := by decide +kernel
theorem dX11_tune_87 : decode cX11_tune 87 = .ok (.iload_n 2, 1) := by decide +kernel
theorem dX11_tune_88 : decode cX11_tune 88 = .ok (.putfield 57, 3) := by decide +kernel
theorem dX11_tune_91 : decode cX11_tune 91 = .ok (.aload_n 0, 1) := by decide +kernel
theorem dX11_tune_92 : decode cX11_tune 92 = .ok (.getfield 16, 3) := by decide +kernel
theorem dX11_tune_95 : decode cX11_tune 95 = .ok (.iload_n 1, 1) := by decide +kernel
theorem dX11_tune_96 : decode cX11_tune 96 = .ok (.invokevirtual 41, 3) := by decide +kernel
theorem dX11_tune_99 : decode cX11_tune 99 = .ok (.checkcast 45, 3) := by decide +kernel
theorem dX11_tune_102 : decode cX11_tune 102 = .ok (.iload_n 3, 1) := by decide +kernel
theorem dX11_tune_103 : decode cX11_tune 103 = .ok (.putfield 98, 3) := by decide +kernel
theorem dX11_tune_106 : decode cX11_tune 106 = .ok (.iload 4, 2) := by decide +kernel
theorem dX11_tune_108 : decode cX11_tune 108 = .ok (.ireturn, 1) := by decide +kernel
theorem dX11_send_0 : decode cX11_send 0 = .ok (.aload_n 0, 1) := by decide +kernel
theorem dX11_send_1 : decode cX11_send 1 = .ok (.aload_n 0, 1) := by decide +kernel
theorem dX11_send_2 : decode cX11_send 2 = .ok (.iload_n 1, 1) := by decide +kernel
theorem dX11_send_3 : decode cX11_send 3 = .ok (.invokevirtual 81, 3) := by decide +kernel
theorem dX11_send_6 : decode cX11_send 6 = .ok (.ifCond .ne 11, 3) := by decide +kernel
theorem dX11_send_9 : decode cX11_send 9 = .ok (.aload_n 0, 1) := by decide +kernel
theorem dX11_send_10 : decode cX11_send 10 = .ok (.iload_n 2, 1) := by decide +kernel
theorem dX11_send_11 : decode cX11_send 11 = .ok (.invokevirtual 81, 3) := by decide +kernel
theorem dX11_send_14 : decode cX11_send 14 = .ok (.ifCond .eq 7, 3) := by decide +kernel
theorem dX11_send_17 : decode cX11_send 17 = .ok (.iconst 1, 1) := by decide +kernel
theorem dX11_send_18 : decode cX11_send 18 = .ok (.goto 4, 3) := by decide +kernel
theorem dX11_send_21 : decode cX11_send 21 = .ok (.iconst 0, 1) := by decide +kernel
theorem dX11_send_22 : decode cX11_send 22 = .ok (.iconst 1, 1) := by decide +kernel
theorem dX11_send_23 : decode cX11_send 23 = .ok (.invokevirtual 71, 3) := by decide +kernel
theorem dX11_send_26 : decode cX11_send 26 = .ok (.ifCond .ne 64, 3) := by decide +kernel
theorem dX11_send_29 : decode cX11_send 29 = .ok (.aload_n 0, 1) := by decide +kernel
theorem dX11_send_30 : decode cX11_send 30 = .ok (.iload_n 1, 1) := by decide +kernel
theorem dX11_send_31 : decode cX11_send 31 = .ok (.iload_n 2, 1) := by decide +kernel
theorem dX11_send_32 : decode cX11_send 32 = .ok (.if_icmp .eq 12, 3) := by decide +kernel
theorem dX11_send_35 : decode cX11_send 35 = .ok (.iload_n 3, 1) := by decide +kernel
theorem dX11_send_36 : decode cX11_send 36 = .ok (.iconst 1, 1) := by decide +kernel
theorem dX11_send_37 : decode cX11_send 37 = .ok (.iconst 3, 1) := by decide +kernel
theorem dX11_send_38 : decode cX11_send 38 = .ok (.invokestatic 37, 3) := by decide +kernel
theorem dX11_send_41 : decode cX11_send 41 = .ok (.ifCond .ne 7, 3) := by decide +kernel
theorem dX11_send_44 : decode cX11_send 44 = .ok (.iconst 1, 1) := by decide +kernel
theorem dX11_send_45 : decode cX11_send 45 = .ok (.goto 4, 3) := by decide +kernel
theorem dX11_send_48 : decode cX11_send 48 = .ok (.iconst 0, 1) := by decide +kernel
theorem dX11_send_49 : decode cX11_send 49 = .ok (.iconst 2, 1) := by decide +kernel
theorem dX11_send_50 : decode cX11_send 50 = .ok (.invokevirtual 29, 3) := by decide +kernel
theorem dX11_send_53 : decode cX11_send 53 = .ok (.ifCond .ne 37, 3) := by decide +kernel
theorem dX11_send_56 : decode cX11_send 56 = .ok (.aload_n 0, 1) := by decide +kernel
theorem dX11_send_57 : decode cX11_send 57 = .ok (.aload_n 0, 1) := by decide +kernel
theorem dX11_send_58 : decode cX11_send 58 = .ok (.getfield 16, 3) := by decide +kernel
theorem dX11_send_61 : decode cX11_send 61 = .ok (.iload_n 1, 1) := by decide +kernel
theorem dX11_send_62 : decode cX11_send 62 = .ok (.invokevirtual 41, 3) := by decide +kernel
theorem dX11_send_65 : decode cX11_send 65 = .ok (.checkcast 45, 3) := by decide +kernel
theorem dX11_send_68 : decode cX11_send 68 = .ok (.getfield 102, 3) := by decide +kernel
theorem dX11_send_71 : decode cX11_send 71 = .ok (.invokevirtual 33, 3) := by decide +kernel
theorem dX11_send_74 : decode cX11_send 74 = .ok (.iconst 4, 1) := by decide +kernel
theorem dX11_send_75 : decode cX11_send 75 = .ok (.if_icmp .ne 7, 3) := by decide +kernel
theorem dX11_send_78 : decode cX11_send 78 = .ok (.iconst 1, 1) := by decide +kernel
theorem dX11_send_79 : decode cX11_send 79 = .ok (.goto 4, 3) := by decide +kernel
theorem dX11_send_82 : decode cX11_send 82 = .ok (.iconst 0, 1) := by decide +kernel
theorem dX11_send_83 : decode cX11_send 83 = .ok (.iconst 3, 1) := by decide +kernel
theorem dX11_send_84 : decode cX11_send 84 = .ok (.invokevirtual 29, 3) := by decide +kernel
theorem dX11_send_87 : decode cX11_send 87 = .ok (.ifCond .eq 5, 3) := by decide +kernel
theorem dX11_send_90 : decode cX11_send 90 = .ok (.iconst 0, 1) := by decide +kernel
theorem dX11_send_91 : decode cX11_send 91 = .ok (.ireturn, 1) := by decide +kernel
theorem dX11_send_92 : decode cX11_send 92 = .ok (.aload_n 0, 1) := by decide +kernel
theorem dX11_send_93 : decode cX11_send 93 = .ok (.getfield 16, 3) := by decide +kernel
theorem dX11_send_96 : decode cX11_send 96 = .ok (.iload_n 1, 1) := by decide +kernel
theorem dX11_send_97 : decode cX11_send 97 = .ok (.invokevirtual 41, 3) := by decide +kernel
theorem dX11_send_100 : decode cX11_send 100 = .ok (.checkcast 45, 3) := by decide +kernel
theorem dX11_send_103 : decode cX11_send 103 = .ok (.astore 4, 2) := by decide +kernel
theorem dX11_send_105 : decode cX11_send 105 = .ok (.aload 4, 2) := by decide +kernel
theorem dX11_send_107 : decode cX11_send 107 = .ok (.getfield 102, 3) := by decide +kernel
theorem dX11_send_110 : decode cX11_send 110 = .ok (.iconst 5, 1) := by decide +kernel
theorem dX11_send_111 : decode cX11_send 111 = .ok (.newarray .int, 2) := by decide +kernel
theorem dX11_send_113 : decode cX11_send 113 = .ok (.dup, 1) := by decide +kernel
theorem dX11_send_114 : decode cX11_send 114 = .ok (.iconst 0, 1) := by decide +kernel
theorem dX11_send_115 : decode cX11_send 115 = .ok (.iload_n 1, 1) := by decide +kernel
theorem dX11_send_116 : decode cX11_send 116 = .ok (.iastore, 1) := by decide +kernel
theorem dX11_send_117 : decode cX11_send 117 = .ok (.dup, 1) := by decide +kernel
theorem dX11_send_118 : decode cX11_send 118 = .ok (.iconst 1, 1) := by decide +kernel
theorem dX11_send_119 : decode cX11_send 119 = .ok (.iload_n 2, 1) := by decide +kernel
theorem dX11_send_120 : decode cX11_send 120 = .ok (.iastore, 1) := by decide +kernel
theorem dX11_send_121 : decode cX11_send 121 = .ok (.dup, 1) := by decide +kernel
theorem dX11_send_122 : decode cX11_send 122 = .ok (.iconst 2, 1) := by decide +kernel
theorem dX11_send_123 : decode cX11_send 123 = .ok (.iload_n 3, 1) := by decide +kernel
theorem dX11_send_124 : decode cX11_send 124 = .ok (.iastore, 1) := by decide +kernel
theorem dX11_send_125 : decode cX11_send 125 = .ok (.dup, 1) := by decide +kernel
theorem dX11_send_126 : decode cX11_send 126 = .ok (.iconst 3, 1) := by decide +kernel
theorem dX11_send_127 : decode cX11_send 127 = .ok (.aload 4, 2) := by decide +kernel
theorem dX11_send_129 : decode cX11_send 129 = .ok (.getfield 105, 3) := by decide +kernel
theorem dX11_send_132 : decode cX11_send 132 = .ok (.iastore, 1) := by decide +kernel
theorem dX11_send_133 : decode cX11_send 133 = .ok (.dup, 1) := by decide +kernel
theorem dX11_send_134 : decode cX11_send 134 = .ok (.iconst 4, 1) := by decide +kernel
theorem dX11_send_135 : decode cX11_send 135 = .ok (.iconst 0, 1) := by decide +kernel
theorem dX11_send_136 : decode cX11_send 136 = .ok (.iastore, 1) := by decide +kernel
theorem dX11_send_137 : decode cX11_send 137 = .ok (.invokevirtual 77, 3) := by decide +kernel
theorem dX11_send_140 : decode cX11_send 140 = .ok (.pop, 1) := by decide +kernel
theorem dX11_send_141 : decode cX11_send 141 = .ok (.aload 4, 2) := by decide +kernel
theorem dX11_send_143 : decode cX11_send 143 = .ok (.dup, 1) := by decide +kernel
theorem dX11_send_144 : decode cX11_send 144 = .ok (.getfield 105, 3) := by decide +kernel
theorem dX11_send_147 : decode cX11_send 147 = .ok (.dup_x1, 1) := by decide +kernel
theorem dX11_send_148 : decode cX11_send 148 = .ok (.iconst 1, 1) := by decide +kernel
theorem dX11_send_149 : decode cX11_send 149 = .ok (.iadd, 1) := by decide +kernel
theorem dX11_send_150 : decode cX11_send 150 = .ok (.putfield 105, 3) := by decide +kernel
theorem dX11_send_153 : decode cX11_send 153 = .ok (.ireturn, 1) := by decide +kernel
theorem dX11_isBusyFor_0 : decode cX11_isBusyFor 0 = .ok (.iconst 0, 1) := by decide +kernel
theorem dX11_isBusyFor_1 : decode cX11_isBusyFor 1 = .ok (.istore_n 2, 1) := by decide +kernel
theorem dX11_isBusyFor_2 : decode cX11_isBusyFor 2 = .ok (.iload_n 2, 1) := by decide +kernel
theorem dX11_isBusyFor_3 : decode cX11_isBusyFor 3 = .ok (.aload_n 0, 1) := by decide +kernel
theorem dX11_isBusyFor_4 : decode cX11_isBusyFor 4 = .ok (.getfield 16, 3) := by decide +kernel
theorem dX11_isBusyFor_7 : decode cX11_isBusyFor 7 = .ok (.invokevirtual 33, 3) := by decide +kernel
theorem dX11_isBusyFor_10 : decode cX11_isBusyFor 10 = .ok (.if_icmp .ge 58, 3) := by decide +kernel
theorem dX11_isBusyFor_13 : decode cX11_isBusyFor 13 = .ok (.aload_n 0, 1) := by decide +kernel
theorem dX11_isBusyFor_14 : decode cX11_isBusyFor 14 = .ok (.iload_n 1, 1) := by decide +kernel
theorem dX11_isBusyFor_15 : decode cX11_isBusyFor 15 = .ok (.iload_n 2, 1) := by decide +kernel
theorem dX11_isBusyFor_16 : decode cX11_isBusyFor 16 = .ok (.invokevirtual 60, 3) := by decide +kernel
theorem dX11_isBusyFor_19 : decode cX11_isBusyFor 19 = .ok (.ifCond .eq 43, 3) := by decide +kernel
theorem dX11_isBusyFor_22 : decode cX11_isBusyFor 22 = .ok (.aload_n 0, 1) := by decide +kernel
theorem dX11_isBusyFor_23 : decode cX11_isBusyFor 23 = .ok (.getfield 16, 3) := by decide +kernel
theorem dX11_isBusyFor_26 : decode cX11_isBusyFor 26 = .ok (.iload_n 2, 1) := by decide +kernel
theorem dX11_isBusyFor_27 : decode cX11_isBusyFor 27 = .ok (.invokevirtual 41, 3) := by decide +kernel
theorem dX11_isBusyFor_30 : decode cX11_isBusyFor 30 = .ok (.checkcast 45, 3) := by decide +kernel
theorem dX11_isBusyFor_33 : decode cX11_isBusyFor 33 = .ok (.invokevirtual 85, 3) := by decide +kernel
theorem dX11_isBusyFor_36 : decode cX11_isBusyFor 36 = .ok (.ifCond .eq 26, 3) := by decide +kernel
theorem dX11_isBusyFor_39 : decode cX11_isBusyFor 39 = .ok (.aload_n 0, 1) := by decide +kernel
theorem dX11_isBusyFor_40 : decode cX11_isBusyFor 40 = .ok (.getfield 16, 3) := by decide +kernel
theorem dX11_isBusyFor_43 : decode cX11_isBusyFor 43 = .ok (.iload_n 2, 1) := by decide +kernel
theorem dX11_isBusyFor_44 : decode cX11_isBusyFor 44 = .ok (.invokevirtual 41, 3) := by decide +kernel
theorem dX11_isBusyFor_47 : decode cX11_isBusyFor 47 = .ok (.checkcast 45, 3) := by decide +kernel
theorem dX11_isBusyFor_50 : decode cX11_isBusyFor 50 = .ok (.getfield 108, 3) := by decide +kernel
theorem dX11_isBusyFor_53 : decode cX11_isBusyFor 53 = .ok (.aload_n 0, 1) := by decide +kernel
theorem dX11_isBusyFor_54 : decode cX11_isBusyFor 54 = .ok (.getfield 111, 3) := by decide +kernel
theorem dX11_isBusyFor_57 : decode cX11_isBusyFor 57 = .ok (.if_icmp .ge 5, 3) := by decide +kernel
theorem dX11_isBusyFor_60 : decode cX11_isBusyFor 60 = .ok (.iconst 1, 1) := by decide +kernel
theorem dX11_isBusyFor_61 : decode cX11_isBusyFor 61 = .ok (.ireturn, 1) := by decide +kernel
theorem dX11_isBusyFor_62 : decode cX11_isBusyFor 62 = .ok (.iinc 2 1, 3) := by decide +kernel
theorem dX11_isBusyFor_65 : decode cX11_isBusyFor 65 = .ok (.goto (-63), 3) := by decide +kernel
theorem dX11_isBusyFor_68 : decode cX11_isBusyFor 68 = .ok (.iconst 0, 1) := by decide +kernel
theorem dX11_isBusyFor_69 : decode cX11_isBusyFor 69 = .ok (.ireturn, 1) := by decide +kernel
theorem dX11_drop_0 : decode cX11_drop 0 = .ok (.aload_n 1, 1) := by decide +kernel
theorem dX11_drop_1 : decode cX11_drop 1 = .ok (.getfield 102, 3) := by decide +kernel
theorem dX11_drop_4 : decode cX11_drop 4 = .ok (.iconst 0, 1) := by decide +kernel
theorem dX11_drop_5 : decode cX11_drop 5 = .ok (.invokevirtual 114, 3) := by decide +kernel
theorem dX11_drop_8 : decode cX11_drop 8 = .ok (.pop, 1) := by decide +kernel
theorem dX11_drop_9 : decode cX11_drop 9 = .ok (.aload_n 1, 1) := by decide +kernel
theorem dX11_drop_10 : decode cX11_drop 10 = .ok (.iconst 0, 1) := by decide +kernel
theorem dX11_drop_11 : decode cX11_drop 11 = .ok (.putfield 117, 3) := by decide +kernel
theorem dX11_drop_14 : decode cX11_drop 14 = .ok (.aload_n 0, 1) := by decide +kernel
theorem dX11_drop_15 : decode cX11_drop 15 = .ok (.dup, 1) := by decide +kernel
theorem dX11_drop_16 : decode cX11_drop 16 = .ok (.getfield 120, 3) := by decide +kernel
theorem dX11_drop_19 : decode cX11_drop 19 = .ok (.iconst 1, 1) := by decide +kernel
theorem dX11_drop_20 : decode cX11_drop 20 = .ok (.iadd, 1) := by decide +kernel
theorem dX11_drop_21 : decode cX11_drop 21 = .ok (.putfield 120, 3) := by decide +kernel
theorem dX11_drop_24 : decode cX11_drop 24 = .ok (.return_, 1) := by decide +kernel
theorem dX11_begin_0 : decode cX11_begin 0 = .ok (.aload_n 1, 1) := by decide +kernel
theorem dX11_begin_1 : decode cX11_begin 1 = .ok (.getfield 123, 3) := by decide +kernel
theorem dX11_begin_4 : decode cX11_begin 4 = .ok (.ifCond .le 14, 3) := by decide +kernel
theorem dX11_begin_7 : decode cX11_begin 7 = .ok (.aload_n 1, 1) := by decide +kernel
theorem dX11_begin_8 : decode cX11_begin 8 = .ok (.dup, 1) := by decide +kernel
theorem dX11_begin_9 : decode cX11_begin 9 = .ok (.getfield 123, 3) := by decide +kernel
theorem dX11_begin_12 : decode cX11_begin 12 = .ok (.iconst 1, 1) := by decide +kernel
theorem dX11_begin_13 : decode cX11_begin 13 = .ok (.isub, 1) := by decide +kernel
theorem dX11_begin_14 : decode cX11_begin 14 = .ok (.putfield 123, 3) := by decide +kernel
theorem dX11_begin_17 : decode cX11_begin 17 = .ok (.return_, 1) := by decide +kernel
theorem dX11_begin_18 : decode cX11_begin 18 = .ok (.aload_n 1, 1) := by decide +kernel
theorem dX11_begin_19 : decode cX11_begin 19 = .ok (.getfield 126, 3) := by decide +kernel
theorem dX11_begin_22 : decode cX11_begin 22 = .ok (.aload_n 1, 1) := by decide +kernel
theorem dX11_begin_23 : decode cX11_begin 23 = .ok (.getfield 102, 3) := by decide +kernel
theorem dX11_begin_26 : decode cX11_begin 26 = .ok (.iconst 0, 1) := by decide +kernel
theorem dX11_begin_27 : decode cX11_begin 27 = .ok (.invokevirtual 41, 3) := by decide +kernel
theorem dX11_begin_30 : decode cX11_begin 30 = .ok (.checkcast 130, 3) := by decide +kernel
theorem dX11_begin_33 : decode cX11_begin 33 = .ok (.iconst 1, 1) := by decide +kernel
theorem dX11_begin_34 : decode cX11_begin 34 = .ok (.iaload, 1) := by decide +kernel
theorem dX11_begin_35 : decode cX11_begin 35 = .ok (.iaload, 1) := by decide +kernel
theorem dX11_begin_36 : decode cX11_begin 36 = .ok (.istore_n 2, 1) := by decide +kernel
theorem dX11_begin_37 : decode cX11_begin 37 = .ok (.iload_n 2, 1) := by decide +kernel
theorem dX11_begin_38 : decode cX11_begin 38 = .ok (.iconst (-1), 1) := by decide +kernel
theorem dX11_begin_39 : decode cX11_begin 39 = .ok (.if_icmp .ne 9, 3) := by decide +kernel
theorem dX11_begin_42 : decode cX11_begin 42 = .ok (.aload_n 0, 1) := by decide +kernel
theorem dX11_begin_43 : decode cX11_begin 43 = .ok (.aload_n 1, 1) := by decide +kernel
theorem dX11_begin_44 : decode cX11_begin 44 = .ok (.invokevirtual 131, 3) := by decide +kernel
theorem dX11_begin_47 : decode cX11_begin 47 = .ok (.return_, 1) := by decide +kernel
theorem dX11_begin_48 : decode cX11_begin 48 = .ok (.aload_n 1, 1) := by decide +kernel
theorem dX11_begin_49 : decode cX11_begin 49 = .ok (.iload_n 2, 1) := by decide +kernel
theorem dX11_begin_50 : decode cX11_begin 50 = .ok (.putfield 135, 3) := by decide +kernel
theorem dX11_begin_53 : decode cX11_begin 53 = .ok (.aload_n 1, 1) := by decide +kernel
theorem dX11_begin_54 : decode cX11_begin 54 = .ok (.aload_n 1, 1) := by decide +kernel
theorem dX11_begin_55 : decode cX11_begin 55 = .ok (.getfield 102, 3) := by decide +kernel
theorem dX11_begin_58 : decode cX11_begin 58 = .ok (.iconst 0, 1) := by decide +kernel
theorem dX11_begin_59 : decode cX11_begin 59 = .ok (.invokevirtual 41, 3) := by decide +kernel
theorem dX11_begin_62 : decode cX11_begin 62 = .ok (.checkcast 130, 3) := by decide +kernel
theorem dX11_begin_65 : decode cX11_begin 65 = .ok (.iconst 2, 1) := by decide +kernel
theorem dX11_begin_66 : decode cX11_begin 66 = .ok (.iaload, 1) := by decide +kernel
theorem dX11_begin_67 : decode cX11_begin 67 = .ok (.putfield 138, 3) := by decide +kernel
theorem dX11_begin_70 : decode cX11_begin 70 = .ok (.aload_n 1, 1) := by decide +kernel
theorem dX11_begin_71 : decode cX11_begin 71 = .ok (.iconst 1, 1) := by decide +kernel
theorem dX11_begin_72 : decode cX11_begin 72 = .ok (.putfield 141, 3) := by decide +kernel
theorem dX11_begin_75 : decode cX11_begin 75 = .ok (.aload_n 1, 1) := by decide +kernel
theorem dX11_begin_76 : decode cX11_begin 76 = .ok (.aload_n 0, 1) := by decide +kernel
theorem dX11_begin_77 : decode cX11_begin 77 = .ok (.getfield 111, 3) := by decide +kernel
theorem dX11_begin_80 : decode cX11_begin 80 = .ok (.putfield 108, 3) := by decide +kernel
theorem dX11_begin_83 : decode cX11_begin 83 = .ok (.aload_n 1, 1) := by decide +kernel
theorem dX11_begin_84 : decode cX11_begin 84 = .ok (.dup, 1) := by decide +kernel
theorem dX11_begin_85 : decode cX11_begin 85 = .ok (.getfield 144, 3) := by decide +kernel
theorem dX11_begin_88 : decode cX11_begin 88 = .ok (.iconst 1, 1) := by decide +kernel
theorem dX11_begin_89 : decode cX11_begin 89 = .ok (.iadd, 1) := by decide +kernel
theorem dX11_begin_90 : decode cX11_begin 90 = .ok (.putfield 144, 3) := by decide +kernel
theorem dX11_begin_93 : decode cX11_begin 93 = .ok (.return_, 1) := by decide +kernel
theorem dX11_gets_0 : decode cX11_gets 0 = .ok (.iload_n 3, 1) := by decide +kernel
theorem dX11_gets_1 : decode cX11_gets 1 = .ok (.iload_n 1, 1) := by decide +kernel
theorem dX11_gets_2 : decode cX11_gets 2 = .ok (.invokestatic 147, 3) := by decide +kernel
theorem dX11_gets_5 : decode cX11_gets 5 = .ok (.ifCond .ne 12, 3) := by decide +kernel
theorem dX11_gets_8 : decode cX11_gets 8 = .ok (.aload_n 0, 1) := by decide +kernel
theorem dX11_gets_9 : decode cX11_gets 9 = .ok (.iload_n 1, 1) := by decide +kernel
theorem dX11_gets_10 : decode cX11_gets 10 = .ok (.iload_n 2, 1) := by decide +kernel
theorem dX11_gets_11 : decode cX11_gets 11 = .ok (.invokevirtual 60, 3) := by decide +kernel
theorem dX11_gets_14 : decode cX11_gets 14 = .ok (.ifCond .ne 5, 3) := by decide +kernel
theorem dX11_gets_17 : decode cX11_gets 17 = .ok (.iconst 0, 1) := by decide +kernel
theorem dX11_gets_18 : decode cX11_gets 18 = .ok (.ireturn, 1) := by decide +kernel
theorem dX11_gets_19 : decode cX11_gets 19 = .ok (.iconst 0, 1) := by decide +kernel
theorem dX11_gets_20 : decode cX11_gets 20 = .ok (.istore 4, 2) := by decide +kernel
theorem dX11_gets_22 : decode cX11_gets 22 = .ok (.iload 4, 2) := by decide +kernel
theorem dX11_gets_24 : decode cX11_gets 24 = .ok (.aload_n 0, 1) := by decide +kernel
theorem dX11_gets_25 : decode cX11_gets 25 = .ok (.getfield 16, 3) := by decide +kernel
theorem dX11_gets_28 : decode cX11_gets 28 = .ok (.invokevirtual 33, 3) := by decide +kernel
theorem dX11_gets_31 : decode cX11_gets 31 = .ok (.if_icmp .ge 54, 3) := by decide +kernel
theorem dX11_gets_34 : decode cX11_gets 34 = .ok (.iload 4, 2) := by decide +kernel
theorem dX11_gets_36 : decode cX11_gets 36 = .ok (.iload_n 2, 1) := by decide +kernel
theorem dX11_gets_37 : decode cX11_gets 37 = .ok (.if_icmp .eq 42, 3) := by decide +kernel
theorem dX11_gets_40 : decode cX11_gets 40 = .ok (.iload_n 3, 1) := by decide +kernel
theorem dX11_gets_41 : decode cX11_gets 41 = .ok (.iload 4, 2) := by decide +kernel
theorem dX11_gets_43 : decode cX11_gets 43 = .ok (.invokestatic 147, 3) := by decide +kernel
theorem dX11_gets_46 : decode cX11_gets 46 = .ok (.ifCond .eq 33, 3) := by decide +kernel
theorem dX11_gets_49 : decode cX11_gets 49 = .ok (.aload_n 0, 1) := by decide +kernel
theorem dX11_gets_50 : decode cX11_gets 50 = .ok (.iload_n 1, 1) := by decide +kernel
theorem dX11_gets_51 : decode cX11_gets 51 = .ok (.iload 4, 2) := by decide +kernel
theorem dX11_gets_53 : decode cX11_gets 53 = .ok (.invokevirtual 60, 3) := by decide +kernel
theorem dX11_gets_56 : decode cX11_gets 56 = .ok (.ifCond .eq 23, 3) := by decide +kernel
theorem dX11_gets_59 : decode cX11_gets 59 = .ok (.iconst 4, 1) := by decide +kernel
theorem dX11_gets_60 : decode cX11_gets 60 = .ok (.aload_n 0, 1) := by decide +kernel
theorem dX11_gets_61 : decode cX11_gets 61 = .ok (.iload_n 2, 1) := by decide +kernel
theorem dX11_gets_62 : decode cX11_gets 62 = .ok (.iload_n 1, 1) := by decide +kernel
theorem dX11_gets_63 : decode cX11_gets 63 = .ok (.invokevirtual 53, 3) := by decide +kernel
theorem dX11_gets_66 : decode cX11_gets 66 = .ok (.imul, 1) := by decide +kernel
theorem dX11_gets_67 : decode cX11_gets 67 = .ok (.aload_n 0, 1) := by decide +kernel
theorem dX11_gets_68 : decode cX11_gets 68 = .ok (.iload 4, 2) := by decide +kernel
theorem dX11_gets_70 : decode cX11_gets 70 = .ok (.iload_n 1, 1) := by decide +kernel
theorem dX11_gets_71 : decode cX11_gets 71 = .ok (.invokevirtual 53, 3) := by decide +kernel
theorem dX11_gets_74 : decode cX11_gets 74 = .ok (.if_icmp .le 5, 3) := by decide +kernel
theorem dX11_gets_77 : decode cX11_gets 77 = .ok (.iconst 0, 1) := by decide +kernel
theorem dX11_gets_78 : decode cX11_gets 78 = .ok (.ireturn, 1) := by decide +kernel
theorem dX11_gets_79 : decode cX11_gets 79 = .ok (.iinc 4 1, 3) := by decide +kernel
theorem dX11_gets_82 : decode cX11_gets 82 = .ok (.goto (-60), 3) := by decide +kernel
theorem dX11_gets_85 : decode cX11_gets 85 = .ok (.iconst 1, 1) := by decide +kernel
theorem dX11_gets_86 : decode cX11_gets 86 = .ok (.ireturn, 1) := by decide +kernel
theorem dX11_senders_0 : decode cX11_senders 0 = .ok (.iconst 0, 1) := by decide +kernel
theorem dX11_senders_1 : decode cX11_senders 1 = .ok (.istore_n 1, 1) := by decide +kernel
theorem dX11_senders_2 : decode cX11_senders 2 = .ok (.iconst 0, 1) := by decide +kernel
theorem dX11_senders_3 : decode cX11_senders 3 = .ok (.istore_n 2, 1) := by decide +kernel
theorem dX11_senders_4 : decode cX11_senders 4 = .ok (.iload_n 2, 1) := by decide +kernel
theorem dX11_senders_5 : decode cX11_senders 5 = .ok (.aload_n 0, 1) := by decide +kernel
theorem dX11_senders_6 : decode cX11_senders 6 = .ok (.getfield 16, 3) := by decide +kernel
theorem dX11_senders_9 : decode cX11_senders 9 = .ok (.invokevirtual 33, 3) := by decide +kernel
theorem dX11_senders_12 : decode cX11_senders 12 = .ok (.if_icmp .ge 31, 3) := by decide +kernel
theorem dX11_senders_15 : decode cX11_senders 15 = .ok (.iload_n 1, 1) := by decide +kernel
theorem dX11_senders_16 : decode cX11_senders 16 = .ok (.aload_n 0, 1) := by decide +kernel
theorem dX11_senders_17 : decode cX11_senders 17 = .ok (.getfield 16, 3) := by decide +kernel
theorem dX11_senders_20 : decode cX11_senders 20 = .ok (.iload_n 2, 1) := by decide +kernel
theorem dX11_senders_21 : decode cX11_senders 21 = .ok (.invokevirtual 41, 3) := by decide +kernel
theorem dX11_senders_24 : decode cX11_senders 24 = .ok (.checkcast 45, 3) := by decide +kernel
theorem dX11_senders_27 : decode cX11_senders 27 = .ok (.invokevirtual 85, 3) := by decide +kernel
theorem dX11_senders_30 : decode cX11_senders 30 = .ok (.invokestatic 67, 3) := by decide +kernel
theorem dX11_senders_33 : decode cX11_senders 33 = .ok (.iload_n 2, 1) := by decide +kernel
theorem dX11_senders_34 : decode cX11_senders 34 = .ok (.ishl, 1) := by decide +kernel
theorem dX11_senders_35 : decode cX11_senders 35 = .ok (.ior, 1) := by decide +kernel
theorem dX11_senders_36 : decode cX11_senders 36 = .ok (.istore_n 1, 1) := by decide +kernel
theorem dX11_senders_37 : decode cX11_senders 37 = .ok (.iinc 2 1, 3) := by decide +kernel
theorem dX11_senders_40 : decode cX11_senders 40 = .ok (.goto (-36), 3) := by decide +kernel
theorem dX11_senders_43 : decode cX11_senders 43 = .ok (.iload_n 1, 1) := by decide +kernel
theorem dX11_senders_44 : decode cX11_senders 44 = .ok (.ireturn, 1) := by decide +kernel
theorem dX11_hasArrived_0 : decode cX11_hasArrived 0 = .ok (.aload_n 0, 1) := by decide +kernel
theorem dX11_hasArrived_1 : decode cX11_hasArrived 1 = .ok (.getfield 20, 3) := by decide +kernel
theorem dX11_hasArrived_4 : decode cX11_hasArrived 4 = .ok (.invokevirtual 150, 3) := by decide +kernel
theorem dX11_hasArrived_7 : decode cX11_hasArrived 7 = .ok (.astore_n 3, 1) := by decide +kernel
theorem dX11_hasArrived_8 : decode cX11_hasArrived 8 = .ok (.aload_n 3, 1) := by decide +kernel
theorem dX11_hasArrived_9 : decode cX11_hasArrived 9 = .ok (.invokeinterface 154 1, 5) := by decide +kernel
theorem dX11_hasArrived_14 : decode cX11_hasArrived 14 = .ok (.ifCond .eq 35, 3) := by decide +kernel
theorem dX11_hasArrived_17 : decode cX11_hasArrived 17 = .ok (.aload_n 3, 1) := by decide +kernel
theorem dX11_hasArrived_18 : decode cX11_hasArrived 18 = .ok (.invokeinterface 159 1, 5) := by decide +kernel
theorem dX11_hasArrived_23 : decode cX11_hasArrived 23 = .ok (.checkcast 130, 3) := by decide +kernel
theorem dX11_hasArrived_26 : decode cX11_hasArrived 26 = .ok (.astore 4, 2) := by decide +kernel
theorem dX11_hasArrived_28 : decode cX11_hasArrived 28 = .ok (.aload 4, 2) := by decide +kernel
theorem dX11_hasArrived_30 : decode cX11_hasArrived 30 = .ok (.iconst 0, 1) := by decide +kernel
theorem dX11_hasArrived_31 : decode cX11_hasArrived 31 = .ok (.iaload, 1) := by decide +kernel
theorem dX11_hasArrived_32 : decode cX11_hasArrived 32 = .ok (.iload_n 1, 1) := by decide +kernel
theorem dX11_hasArrived_33 : decode cX11_hasArrived 33 = .ok (.if_icmp .ne 13, 3) := by decide +kernel
theorem dX11_hasArrived_36 : decode cX11_hasArrived 36 = .ok (.aload 4, 2) := by decide +kernel
theorem dX11_hasArrived_38 : decode cX11_hasArrived 38 = .ok (.iconst 1, 1) := by decide +kernel
theorem dX11_hasArrived_39 : decode cX11_hasArrived 39 = .ok (.iaload, 1) := by decide +kernel
theorem dX11_hasArrived_40 : decode cX11_hasArrived 40 = .ok (.iload_n 2, 1) := by decide +kernel
theorem dX11_hasArrived_41 : decode cX11_hasArrived 41 = .ok (.if_icmp .ne 5, 3) := by decide +kernel
theorem dX11_hasArrived_44 : decode cX11_hasArrived 44 = .ok (.iconst 1, 1) := by decide +kernel
theorem dX11_hasArrived_45 : decode cX11_hasArrived 45 = .ok (.ireturn, 1) := by decide +kernel
theorem dX11_hasArrived_46 : decode cX11_hasArrived 46 = .ok (.goto (-38), 3) := by decide +kernel
theorem dX11_hasArrived_49 : decode cX11_hasArrived 49 = .ok (.iconst 0, 1) := by decide +kernel
theorem dX11_hasArrived_50 : decode cX11_hasArrived 50 = .ok (.ireturn, 1) := by decide +kernel
theorem dX11_receive_0 : decode cX11_receive 0 = .ok (.aload_n 2, 1) := by decide +kernel
theorem dX11_receive_1 : decode cX11_receive 1 = .ok (.iconst 1, 1) := by decide +kernel
theorem dX11_receive_2 : decode cX11_receive 2 = .ok (.iaload, 1) := by decide +kernel
theorem dX11_receive_3 : decode cX11_receive 3 = .ok (.iload_n 1, 1) := by decide +kernel
theorem dX11_receive_4 : decode cX11_receive 4 = .ok (.if_icmp .ne 63, 3) := by decide +kernel
theorem dX11_receive_7 : decode cX11_receive 7 = .ok (.aload_n 0, 1) := by decide +kernel
theorem dX11_receive_8 : decode cX11_receive 8 = .ok (.aload_n 2, 1) := by decide +kernel
theorem dX11_receive_9 : decode cX11_receive 9 = .ok (.iconst 0, 1) := by decide +kernel
theorem dX11_receive_10 : decode cX11_receive 10 = .ok (.iaload, 1) := by decide +kernel
theorem dX11_receive_11 : decode cX11_receive 11 = .ok (.aload_n 2, 1) := by decide +kernel
theorem dX11_receive_12 : decode cX11_receive 12 = .ok (.iconst 3, 1) := by decide +kernel
theorem dX11_receive_13 : decode cX11_receive 13 = .ok (.iaload, 1) := by decide +kernel
theorem dX11_receive_14 : decode cX11_receive 14 = .ok (.invokevirtual 162, 3) := by decide +kernel
theorem dX11_receive_17 : decode cX11_receive 17 = .ok (.ifCond .eq 16, 3) := by decide +kernel
theorem dX11_receive_20 : decode cX11_receive 20 = .ok (.aload_n 0, 1) := by decide +kernel
theorem dX11_receive_21 : decode cX11_receive 21 = .ok (.dup, 1) := by decide +kernel
theorem dX11_receive_22 : decode cX11_receive 22 = .ok (.getfield 165, 3) := by decide +kernel
theorem dX11_receive_25 : decode cX11_receive 25 = .ok (.iconst 1, 1) := by decide +kernel
theorem dX11_receive_26 : decode cX11_receive 26 = .ok (.iadd, 1) := by decide +kernel
theorem dX11_receive_27 : decode cX11_receive 27 = .ok (.putfield 165, 3) := by decide +kernel
theorem dX11_receive_30 : decode cX11_receive 30 = .ok (.goto 36, 3) := by decide +kernel
theorem dX11_receive_33 : decode cX11_receive 33 = .ok (.aload_n 0, 1) := by decide +kernel
theorem dX11_receive_34 : decode cX11_receive 34 = .ok (.getfield 20, 3) := by decide +kernel
theorem dX11_receive_37 : decode cX11_receive 37 = .ok (.iconst 2, 1) := by decide +kernel
theorem dX11_receive_38 : decode cX11_receive 38 = .ok (.newarray .int, 2) := by decide +kernel
theorem dX11_receive_40 : decode cX11_receive 40 = .ok (.dup, 1) := by decide +kernel
theorem dX11_receive_41 : decode cX11_receive 41 = .ok (.iconst 0, 1) := by decide +kernel
theorem dX11_receive_42 : decode cX11_receive 42 = .ok (.aload_n 2, 1) := by decide +kernel
theorem dX11_receive_43 : decode cX11_receive 43 = .ok (.iconst 0, 1) := by decide +kernel
theorem dX11_receive_44 : decode cX11_receive 44 = .ok (.iaload, 1) := by decide +kernel
theorem dX11_receive_45 : decode cX11_receive 45 = .ok (.iastore, 1) := by decide +kernel
theorem dX11_receive_46 : decode cX11_receive 46 = .ok (.dup, 1) := by decide +kernel
theorem dX11_receive_47 : decode cX11_receive 47 = .ok (.iconst 1, 1) := by decide +kernel
theorem dX11_receive_48 : decode cX11_receive 48 = .ok (.aload_n 2, 1) := by decide +kernel
theorem dX11_receive_49 : decode cX11_receive 49 = .ok (.iconst 3, 1) := by decide +kernel
theorem dX11_receive_50 : decode cX11_receive 50 = .ok (.iaload, 1) := by decide +kernel
theorem dX11_receive_51 : decode cX11_receive 51 = .ok (.iastore, 1) := by decide +kernel
theorem dX11_receive_52 : decode cX11_receive 52 = .ok (.invokevirtual 77, 3) := by decide +kernel
theorem dX11_receive_55 : decode cX11_receive 55 = .ok (.pop, 1) := by decide +kernel
theorem dX11_receive_56 : decode cX11_receive 56 = .ok (.aload_n 0, 1) := by decide +kernel
theorem dX11_receive_57 : decode cX11_receive 57 = .ok (.dup, 1) := by decide +kernel
theorem dX11_receive_58 : decode cX11_receive 58 = .ok (.getfield 168, 3) := by decide +kernel
theorem dX11_receive_61 : decode cX11_receive 61 = .ok (.iconst 1, 1) := by decide +kernel
theorem dX11_receive_62 : decode cX11_receive 62 = .ok (.iadd, 1) := by decide +kernel
theorem dX11_receive_63 : decode cX11_receive 63 = .ok (.putfield 168, 3) := by decide +kernel
theorem dX11_receive_66 : decode cX11_receive 66 = .ok (.return_, 1) := by decide +kernel
theorem dX11_receive_67 : decode cX11_receive 67 = .ok (.aload_n 2, 1) := by decide +kernel
theorem dX11_receive_68 : decode cX11_receive 68 = .ok (.iconst 4, 1) := by decide +kernel
theorem dX11_receive_69 : decode cX11_receive 69 = .ok (.iaload, 1) := by decide +kernel
theorem dX11_receive_70 : decode cX11_receive 70 = .ok (.bipush 7, 2) := by decide +kernel
theorem dX11_receive_72 : decode cX11_receive 72 = .ok (.if_icmp .ge 24, 3) := by decide +kernel
theorem dX11_receive_75 : decode cX11_receive 75 = .ok (.aload_n 0, 1) := by decide +kernel
theorem dX11_receive_76 : decode cX11_receive 76 = .ok (.getfield 16, 3) := by decide +kernel
theorem dX11_receive_79 : decode cX11_receive 79 = .ok (.iload_n 1, 1) := by decide +kernel
theorem dX11_receive_80 : decode cX11_receive 80 = .ok (.invokevirtual 41, 3) := by decide +kernel
theorem dX11_receive_83 : decode cX11_receive 83 = .ok (.checkcast 45, 3) := by decide +kernel
theorem dX11_receive_86 : decode cX11_receive 86 = .ok (.getfield 102, 3) := by decide +kernel
theorem dX11_receive_89 : decode cX11_receive 89 = .ok (.invokevirtual 33, 3) := by decide +kernel
theorem dX11_receive_92 : decode cX11_receive 92 = .ok (.iconst 4, 1) := by decide +kernel
theorem dX11_receive_93 : decode cX11_receive 93 = .ok (.if_icmp .ne 16, 3) := by decide +kernel
theorem dX11_receive_96 : decode cX11_receive 96 = .ok (.aload_n 0, 1) := by decide +kernel
theorem dX11_receive_97 : decode cX11_receive 97 = .ok (.dup, 1) := by decide +kernel
theorem dX11_receive_98 : decode cX11_receive 98 = .ok (.getfield 120, 3) := by decide +kernel
theorem dX11_receive_101 : decode cX11_receive 101 = .ok (.iconst 1, 1) := by decide +kernel
theorem dX11_receive_102 : decode cX11_receive 102 = .ok (.iadd, 1) := by decide +kernel
theorem dX11_receive_103 : decode cX11_receive 103 = .ok (.putfield 120, 3) := by decide +kernel
theorem dX11_receive_106 : decode cX11_receive 106 = .ok (.goto 56, 3) := by decide +kernel
theorem dX11_receive_109 : decode cX11_receive 109 = .ok (.aload_n 0, 1) := by decide +kernel
theorem dX11_receive_110 : decode cX11_receive 110 = .ok (.getfield 16, 3) := by decide +kernel
theorem dX11_receive_113 : decode cX11_receive 113 = .ok (.iload_n 1, 1) := by decide +kernel
theorem dX11_receive_114 : decode cX11_receive 114 = .ok (.invokevirtual 41, 3) := by decide +kernel
theorem dX11_receive_117 : decode cX11_receive 117 = .ok (.checkcast 45, 3) := by decide +kernel
theorem dX11_receive_120 : decode cX11_receive 120 = .ok (.getfield 102, 3) := by decide +kernel
theorem dX11_receive_123 : decode cX11_receive 123 = .ok (.iconst 5, 1) := by decide +kernel
theorem dX11_receive_124 : decode cX11_receive 124 = .ok (.newarray .int, 2) := by decide +kernel
theorem dX11_receive_126 : decode cX11_receive 126 = .ok (.dup, 1) := by decide +kernel
theorem dX11_receive_127 : decode cX11_receive 127 = .ok (.iconst 0, 1) := by decide +kernel
theorem dX11_receive_128 : decode cX11_receive 128 = .ok (.aload_n 2, 1) := by decide +kernel
theorem dX11_receive_129 : decode cX11_receive 129 = .ok (.iconst 0, 1) := by decide +kernel
theorem dX11_receive_130 : decode cX11_receive 130 = .ok (.iaload, 1) := by decide +kernel
theorem dX11_receive_131 : decode cX11_receive 131 = .ok (.iastore, 1) := by decide +kernel
theorem dX11_receive_132 : decode cX11_receive 132 = .ok (.dup, 1) := by decide +kernel
theorem dX11_receive_133 : decode cX11_receive 133 = .ok (.iconst 1, 1) := by decide +kernel
theorem dX11_receive_134 : decode cX11_receive 134 = .ok (.aload_n 2, 1) := by decide +kernel
theorem dX11_receive_135 : decode cX11_receive 135 = .ok (.iconst 1, 1) := by decide +kernel
theorem dX11_receive_136 : decode cX11_receive 136 = .ok (.iaload, 1) := by decide +kernel
theorem dX11_receive_137 : decode cX11_receive 137 = .ok (.iastore, 1) := by decide +kernel
theorem dX11_receive_138 : decode cX11_receive 138 = .ok (.dup, 1) := by decide +kernel
theorem dX11_receive_139 : decode cX11_receive 139 = .ok (.iconst 2, 1) := by decide +kernel
theorem dX11_receive_140 : decode cX11_receive 140 = .ok (.aload_n 2, 1) := by decide +kernel
theorem dX11_receive_141 : decode cX11_receive 141 = .ok (.iconst 2, 1) := by decide +kernel
theorem dX11_receive_142 : decode cX11_receive 142 = .ok (.iaload, 1) := by decide +kernel
theorem dX11_receive_143 : decode cX11_receive 143 = .ok (.iastore, 1) := by decide +kernel
theorem dX11_receive_144 : decode cX11_receive 144 = .ok (.dup, 1) := by decide +kernel
theorem dX11_receive_145 : decode cX11_receive 145 = .ok (.iconst 3, 1) := by decide +kernel
theorem dX11_receive_146 : decode cX11_receive 146 = .ok (.aload_n 2, 1) := by decide +kernel
theorem dX11_receive_147 : decode cX11_receive 147 = .ok (.iconst 3, 1) := by decide +kernel
theorem dX11_receive_148 : decode cX11_receive 148 = .ok (.iaload, 1) := by decide +kernel
theorem dX11_receive_149 : decode cX11_receive 149 = .ok (.iastore, 1) := by decide +kernel
theorem dX11_receive_150 : decode cX11_receive 150 = .ok (.dup, 1) := by decide +kernel
theorem dX11_receive_151 : decode cX11_receive 151 = .ok (.iconst 4, 1) := by decide +kernel
theorem dX11_receive_152 : decode cX11_receive 152 = .ok (.aload_n 2, 1) := by decide +kernel
theorem dX11_receive_153 : decode cX11_receive 153 = .ok (.iconst 4, 1) := by decide +kernel
theorem dX11_receive_154 : decode cX11_receive 154 = .ok (.iaload, 1) := by decide +kernel
theorem dX11_receive_155 : decode cX11_receive 155 = .ok (.iconst 1, 1) := by decide +kernel
theorem dX11_receive_156 : decode cX11_receive 156 = .ok (.iadd, 1) := by decide +kernel
theorem dX11_receive_157 : decode cX11_receive 157 = .ok (.iastore, 1) := by decide +kernel
theorem dX11_receive_158 : decode cX11_receive 158 = .ok (.invokevirtual 77, 3) := by decide +kernel
theorem dX11_receive_161 : decode cX11_receive 161 = .ok (.pop, 1) := by decide +kernel
theorem dX11_receive_162 : decode cX11_receive 162 = .ok (.return_, 1) := by decide +kernel
theorem dX11_end_0 : decode cX11_end 0 = .ok (.aload_n 0, 1) := by decide +kernel
theorem dX11_end_1 : decode cX11_end 1 = .ok (.getfield 16, 3) := by decide +kernel
theorem dX11_end_4 : decode cX11_end 4 = .ok (.iload_n 1, 1) := by decide +kernel
theorem dX11_end_5 : decode cX11_end 5 = .ok (.invokevirtual 41, 3) := by decide +kernel
theorem dX11_end_8 : decode cX11_end 8 = .ok (.checkcast 45, 3) := by decide +kernel
theorem dX11_end_11 : decode cX11_end 11 = .ok (.astore_n 2, 1) := by decide +kernel
theorem dX11_end_12 : decode cX11_end 12 = .ok (.aload_n 2, 1) := by decide +kernel
theorem dX11_end_13 : decode cX11_end 13 = .ok (.getfield 141, 3) := by decide +kernel
theorem dX11_end_16 : decode cX11_end 16 = .ok (.ifCond .eq 22, 3) := by decide +kernel
theorem dX11_end_19 : decode cX11_end 19 = .ok (.aload_n 0, 1) := by decide +kernel
theorem dX11_end_20 : decode cX11_end 20 = .ok (.aload_n 2, 1) := by decide +kernel
theorem dX11_end_21 : decode cX11_end 21 = .ok (.getfield 135, 3) := by decide +kernel
theorem dX11_end_24 : decode cX11_end 24 = .ok (.aload_n 2, 1) := by decide +kernel
theorem dX11_end_25 : decode cX11_end 25 = .ok (.getfield 102, 3) := by decide +kernel
theorem dX11_end_28 : decode cX11_end 28 = .ok (.iconst 0, 1) := by decide +kernel
theorem dX11_end_29 : decode cX11_end 29 = .ok (.invokevirtual 41, 3) := by decide +kernel
theorem dX11_end_32 : decode cX11_end 32 = .ok (.checkcast 130, 3) := by decide +kernel
theorem dX11_end_35 : decode cX11_end 35 = .ok (.invokevirtual 171, 3) := by decide +kernel
theorem dX11_end_38 : decode cX11_end 38 = .ok (.aload_n 2, 1) := by decide +kernel
theorem dX11_end_39 : decode cX11_end 39 = .ok (.getfield 141, 3) := by decide +kernel
theorem dX11_end_42 : decode cX11_end 42 = .ok (.ifCond .eq 19, 3) := by decide +kernel
theorem dX11_end_45 : decode cX11_end 45 = .ok (.aload_n 0, 1) := by decide +kernel
theorem dX11_end_46 : decode cX11_end 46 = .ok (.iload_n 1, 1) := by decide +kernel
theorem dX11_end_47 : decode cX11_end 47 = .ok (.aload_n 2, 1) := by decide +kernel
theorem dX11_end_48 : decode cX11_end 48 = .ok (.getfield 135, 3) := by decide +kernel
theorem dX11_end_51 : decode cX11_end 51 = .ok (.invokevirtual 60, 3) := by decide +kernel
theorem dX11_end_54 : decode cX11_end 54 = .ok (.ifCond .eq 7, 3) := by decide +kernel
theorem dX11_end_57 : decode cX11_end 57 = .ok (.iconst 1, 1) := by decide +kernel
theorem dX11_end_58 : decode cX11_end 58 = .ok (.goto 4, 3) := by decide +kernel
theorem dX11_end_61 : decode cX11_end 61 = .ok (.iconst 0, 1) := by decide +kernel
theorem dX11_end_62 : decode cX11_end 62 = .ok (.istore_n 3, 1) := by decide +kernel
theorem dX11_end_63 : decode cX11_end 63 = .ok (.aload_n 2, 1) := by decide +kernel
theorem dX11_end_64 : decode cX11_end 64 = .ok (.iconst (-1), 1) := by decide +kernel
theorem dX11_end_65 : decode cX11_end 65 = .ok (.putfield 135, 3) := by decide +kernel
theorem dX11_end_68 : decode cX11_end 68 = .ok (.iload_n 3, 1) := by decide +kernel
theorem dX11_end_69 : decode cX11_end 69 = .ok (.ifCond .eq 18, 3) := by decide +kernel
theorem dX11_end_72 : decode cX11_end 72 = .ok (.aload_n 2, 1) := by decide +kernel
theorem dX11_end_73 : decode cX11_end 73 = .ok (.getfield 102, 3) := by decide +kernel
theorem dX11_end_76 : decode cX11_end 76 = .ok (.iconst 0, 1) := by decide +kernel
theorem dX11_end_77 : decode cX11_end 77 = .ok (.invokevirtual 114, 3) := by decide +kernel
theorem dX11_end_80 : decode cX11_end 80 = .ok (.pop, 1) := by decide +kernel
theorem dX11_end_81 : decode cX11_end 81 = .ok (.aload_n 2, 1) := by decide +kernel
theorem dX11_end_82 : decode cX11_end 82 = .ok (.iconst 0, 1) := by decide +kernel
theorem dX11_end_83 : decode cX11_end 83 = .ok (.putfield 117, 3) := by decide +kernel
theorem dX11_end_86 : decode cX11_end 86 = .ok (.return_, 1) := by decide +kernel
theorem dX11_end_87 : decode cX11_end 87 = .ok (.aload_n 2, 1) := by decide +kernel
theorem dX11_end_88 : decode cX11_end 88 = .ok (.dup, 1) := by decide +kernel
theorem dX11_end_89 : decode cX11_end 89 = .ok (.getfield 117, 3) := by decide +kernel
theorem dX11_end_92 : decode cX11_end 92 = .ok (.iconst 1, 1) := by decide +kernel
theorem dX11_end_93 : decode cX11_end 93 = .ok (.iadd, 1) := by decide +kernel
theorem dX11_end_94 : decode cX11_end 94 = .ok (.putfield 117, 3) := by decide +kernel
theorem dX11_end_97 : decode cX11_end 97 = .ok (.aload_n 2, 1) := by decide +kernel
theorem dX11_end_98 : decode cX11_end 98 = .ok (.getfield 117, 3) := by decide +kernel
theorem dX11_end_101 : decode cX11_end 101 = .ok (.iconst 5, 1) := by decide +kernel
theorem dX11_end_102 : decode cX11_end 102 = .ok (.if_icmp .ne 9, 3) := by decide +kernel
theorem dX11_end_105 : decode cX11_end 105 = .ok (.aload_n 0, 1) := by decide +kernel
theorem dX11_end_106 : decode cX11_end 106 = .ok (.aload_n 2, 1) := by decide +kernel
theorem dX11_end_107 : decode cX11_end 107 = .ok (.invokevirtual 131, 3) := by decide +kernel
theorem dX11_end_110 : decode cX11_end 110 = .ok (.return_, 1) := by decide +kernel
theorem dX11_end_111 : decode cX11_end 111 = .ok (.aload_n 2, 1) := by decide +kernel
theorem dX11_end_112 : decode cX11_end 112 = .ok (.aload_n 2, 1) := by decide +kernel
theorem dX11_end_113 : decode cX11_end 113 = .ok (.getfield 98, 3) := by decide +kernel
theorem dX11_end_116 : decode cX11_end 116 = .ok (.ifCond .eq 7, 3) := by decide +kernel
theorem dX11_end_119 : decode cX11_end 119 = .ok (.iconst 0, 1) := by decide +kernel
theorem dX11_end_120 : decode cX11_end 120 = .ok (.goto 15, 3) := by decide +kernel
theorem dX11_end_123 : decode cX11_end 123 = .ok (.aload_n 0, 1) := by decide +kernel
theorem dX11_end_124 : decode cX11_end 124 = .ok (.iconst 1, 1) := by decide +kernel
theorem dX11_end_125 : decode cX11_end 125 = .ok (.aload_n 2, 1) := by decide +kernel
theorem dX11_end_126 : decode cX11_end 126 = .ok (.getfield 117, 3) := by decide +kernel
theorem dX11_end_129 : decode cX11_end 129 = .ok (.iconst 1, 1) := by decide +kernel
theorem dX11_end_130 : decode cX11_end 130 = .ok (.iadd, 1) := by decide +kernel
theorem dX11_end_131 : decode cX11_end 131 = .ok (.ishl, 1) := by decide +kernel
theorem dX11_end_132 : decode cX11_end 132 = .ok (.invokevirtual 175, 3) := by decide +kernel
theorem dX11_end_135 : decode cX11_end 135 = .ok (.putfield 123, 3) := by decide +kernel
theorem dX11_end_138 : decode cX11_end 138 = .ok (.aload_n 2, 1) := by decide +kernel
theorem dX11_end_139 : decode cX11_end 139 = .ok (.dup, 1) := by decide +kernel
theorem dX11_end_140 : decode cX11_end 140 = .ok (.getfield 178, 3) := by decide +kernel
theorem dX11_end_143 : decode cX11_end 143 = .ok (.aload_n 2, 1) := by decide +kernel
theorem dX11_end_144 : decode cX11_end 144 = .ok (.getfield 123, 3) := by decide +kernel
theorem dX11_end_147 : decode cX11_end 147 = .ok (.iadd, 1) := by decide +kernel
theorem dX11_end_148 : decode cX11_end 148 = .ok (.putfield 178, 3) := by decide +kernel
theorem dX11_end_151 : decode cX11_end 151 = .ok (.aload_n 2, 1) := by decide +kernel
theorem dX11_end_152 : decode cX11_end 152 = .ok (.dup, 1) := by decide +kernel
theorem dX11_end_153 : decode cX11_end 153 = .ok (.getfield 181, 3) := by decide +kernel
theorem dX11_end_156 : decode cX11_end 156 = .ok (.iconst 1, 1) := by decide +kernel
theorem dX11_end_157 : decode cX11_end 157 = .ok (.iadd, 1) := by decide +kernel
theorem dX11_end_158 : decode cX11_end 158 = .ok (.putfield 181, 3) := by decide +kernel
theorem dX11_end_161 : decode cX11_end 161 = .ok (.return_, 1) := by decide +kernel
theorem dX11_nextSlot_0 : decode cX11_nextSlot 0 = .ok (.aload_n 0, 1) := by decide +kernel
theorem dX11_nextSlot_1 : decode cX11_nextSlot 1 = .ok (.dup, 1) := by decide +kernel
theorem dX11_nextSlot_2 : decode cX11_nextSlot 2 = .ok (.getfield 111, 3) := by decide +kernel
theorem dX11_nextSlot_5 : decode cX11_nextSlot 5 = .ok (.iconst 1, 1) := by decide +kernel
theorem dX11_nextSlot_6 : decode cX11_nextSlot 6 = .ok (.iadd, 1) := by decide +kernel
theorem dX11_nextSlot_7 : decode cX11_nextSlot 7 = .ok (.putfield 111, 3) := by decide +kernel
theorem dX11_nextSlot_10 : decode cX11_nextSlot 10 = .ok (.bipush 8, 2) := by decide +kernel
theorem dX11_nextSlot_12 : decode cX11_nextSlot 12 = .ok (.newarray .boolean, 2) := by decide +kernel
theorem dX11_nextSlot_14 : decode cX11_nextSlot 14 = .ok (.astore_n 1, 1) := by decide +kernel
theorem dX11_nextSlot_15 : decode cX11_nextSlot 15 = .ok (.iconst 0, 1) := by decide +kernel
theorem dX11_nextSlot_16 : decode cX11_nextSlot 16 = .ok (.istore_n 2, 1) := by decide +kernel
theorem dX11_nextSlot_17 : decode cX11_nextSlot 17 = .ok (.iload_n 2, 1) := by decide +kernel
theorem dX11_nextSlot_18 : decode cX11_nextSlot 18 = .ok (.aload_n 0, 1) := by decide +kernel
theorem dX11_nextSlot_19 : decode cX11_nextSlot 19 = .ok (.getfield 16, 3) := by decide +kernel
theorem dX11_nextSlot_22 : decode cX11_nextSlot 22 = .ok (.invokevirtual 33, 3) := by decide +kernel
theorem dX11_nextSlot_25 : decode cX11_nextSlot 25 = .ok (.if_icmp .ge 17, 3) := by decide +kernel
theorem dX11_nextSlot_28 : decode cX11_nextSlot 28 = .ok (.aload_n 1, 1) := by decide +kernel
theorem dX11_nextSlot_29 : decode cX11_nextSlot 29 = .ok (.iload_n 2, 1) := by decide +kernel
theorem dX11_nextSlot_30 : decode cX11_nextSlot 30 = .ok (.aload_n 0, 1) := by decide +kernel
theorem dX11_nextSlot_31 : decode cX11_nextSlot 31 = .ok (.iload_n 2, 1) := by decide +kernel
theorem dX11_nextSlot_32 : decode cX11_nextSlot 32 = .ok (.invokevirtual 184, 3) := by decide +kernel
theorem dX11_nextSlot_35 : decode cX11_nextSlot 35 = .ok (.bastore, 1) := by decide +kernel
theorem dX11_nextSlot_36 : decode cX11_nextSlot 36 = .ok (.iinc 2 1, 3) := by decide +kernel
theorem dX11_nextSlot_39 : decode cX11_nextSlot 39 = .ok (.goto (-22), 3) := by decide +kernel
theorem dX11_nextSlot_42 : decode cX11_nextSlot 42 = .ok (.iconst 0, 1) := by decide +kernel
theorem dX11_nextSlot_43 : decode cX11_nextSlot 43 = .ok (.istore_n 2, 1) := by decide +kernel
theorem dX11_nextSlot_44 : decode cX11_nextSlot 44 = .ok (.iload_n 2, 1) := by decide +kernel
theorem dX11_nextSlot_45 : decode cX11_nextSlot 45 = .ok (.aload_n 0, 1) := by decide +kernel
theorem dX11_nextSlot_46 : decode cX11_nextSlot 46 = .ok (.getfield 16, 3) := by decide +kernel
theorem dX11_nextSlot_49 : decode cX11_nextSlot 49 = .ok (.invokevirtual 33, 3) := by decide +kernel
theorem dX11_nextSlot_52 : decode cX11_nextSlot 52 = .ok (.if_icmp .ge 67, 3) := by decide +kernel
theorem dX11_nextSlot_55 : decode cX11_nextSlot 55 = .ok (.aload_n 0, 1) := by decide +kernel
theorem dX11_nextSlot_56 : decode cX11_nextSlot 56 = .ok (.getfield 16, 3) := by decide +kernel
theorem dX11_nextSlot_59 : decode cX11_nextSlot 59 = .ok (.iload_n 2, 1) := by decide +kernel
theorem dX11_nextSlot_60 : decode cX11_nextSlot 60 = .ok (.invokevirtual 41, 3) := by decide +kernel
theorem dX11_nextSlot_63 : decode cX11_nextSlot 63 = .ok (.checkcast 45, 3) := by decide +kernel
theorem dX11_nextSlot_66 : decode cX11_nextSlot 66 = .ok (.invokevirtual 85, 3) := by decide +kernel
theorem dX11_nextSlot_69 : decode cX11_nextSlot 69 = .ok (.ifCond .ne 44, 3) := by decide +kernel
theorem dX11_nextSlot_72 : decode cX11_nextSlot 72 = .ok (.aload_n 1, 1) := by decide +kernel
theorem dX11_nextSlot_73 : decode cX11_nextSlot 73 = .ok (.iload_n 2, 1) := by decide +kernel
theorem dX11_nextSlot_74 : decode cX11_nextSlot 74 = .ok (.baload, 1) := by decide +kernel
theorem dX11_nextSlot_75 : decode cX11_nextSlot 75 = .ok (.ifCond .ne 38, 3) := by decide +kernel
theorem dX11_nextSlot_78 : decode cX11_nextSlot 78 = .ok (.aload_n 0, 1) := by decide +kernel
theorem dX11_nextSlot_79 : decode cX11_nextSlot 79 = .ok (.getfield 16, 3) := by decide +kernel
theorem dX11_nextSlot_82 : decode cX11_nextSlot 82 = .ok (.iload_n 2, 1) := by decide +kernel
theorem dX11_nextSlot_83 : decode cX11_nextSlot 83 = .ok (.invokevirtual 41, 3) := by decide +kernel
theorem dX11_nextSlot_86 : decode cX11_nextSlot 86 = .ok (.checkcast 45, 3) := by decide +kernel
theorem dX11_nextSlot_89 : decode cX11_nextSlot 89 = .ok (.getfield 102, 3) := by decide +kernel
theorem dX11_nextSlot_92 : decode cX11_nextSlot 92 = .ok (.invokevirtual 187, 3) := by decide +kernel
theorem dX11_nextSlot_95 : decode cX11_nextSlot 95 = .ok (.ifCond .ne 18, 3) := by decide +kernel
theorem dX11_nextSlot_98 : decode cX11_nextSlot 98 = .ok (.aload_n 0, 1) := by decide +kernel
theorem dX11_nextSlot_99 : decode cX11_nextSlot 99 = .ok (.aload_n 0, 1) := by decide +kernel
theorem dX11_nextSlot_100 : decode cX11_nextSlot 100 = .ok (.getfield 16, 3) := by decide +kernel
theorem dX11_nextSlot_103 : decode cX11_nextSlot 103 = .ok (.iload_n 2, 1) := by decide +kernel
theorem dX11_nextSlot_104 : decode cX11_nextSlot 104 = .ok (.invokevirtual 41, 3) := by decide +kernel
theorem dX11_nextSlot_107 : decode cX11_nextSlot 107 = .ok (.checkcast 45, 3) := by decide +kernel
theorem dX11_nextSlot_110 : decode cX11_nextSlot 110 = .ok (.invokevirtual 190, 3) := by decide +kernel
theorem dX11_nextSlot_113 : decode cX11_nextSlot 113 = .ok (.iinc 2 1, 3) := by decide +kernel
theorem dX11_nextSlot_116 : decode cX11_nextSlot 116 = .ok (.goto (-72), 3) := by decide +kernel
theorem dX11_nextSlot_119 : decode cX11_nextSlot 119 = .ok (.aload_n 0, 1) := by decide +kernel
theorem dX11_nextSlot_120 : decode cX11_nextSlot 120 = .ok (.invokevirtual 193, 3) := by decide +kernel
theorem dX11_nextSlot_123 : decode cX11_nextSlot 123 = .ok (.istore_n 2, 1) := by decide +kernel
theorem dX11_nextSlot_124 : decode cX11_nextSlot 124 = .ok (.iconst 0, 1) := by decide +kernel
theorem dX11_nextSlot_125 : decode cX11_nextSlot 125 = .ok (.istore_n 3, 1) := by decide +kernel
theorem dX11_nextSlot_126 : decode cX11_nextSlot 126 = .ok (.iload_n 3, 1) := by decide +kernel
theorem dX11_nextSlot_127 : decode cX11_nextSlot 127 = .ok (.aload_n 0, 1) := by decide +kernel
theorem dX11_nextSlot_128 : decode cX11_nextSlot 128 = .ok (.getfield 16, 3) := by decide +kernel
theorem dX11_nextSlot_131 : decode cX11_nextSlot 131 = .ok (.invokevirtual 33, 3) := by decide +kernel
theorem dX11_nextSlot_134 : decode cX11_nextSlot 134 = .ok (.if_icmp .ge 79, 3) := by decide +kernel
theorem dX11_nextSlot_137 : decode cX11_nextSlot 137 = .ok (.iload_n 2, 1) := by decide +kernel
theorem dX11_nextSlot_138 : decode cX11_nextSlot 138 = .ok (.iload_n 3, 1) := by decide +kernel
theorem dX11_nextSlot_139 : decode cX11_nextSlot 139 = .ok (.invokestatic 147, 3) := by decide +kernel
theorem dX11_nextSlot_142 : decode cX11_nextSlot 142 = .ok (.ifCond .ne 6, 3) := by decide +kernel
theorem dX11_nextSlot_145 : decode cX11_nextSlot 145 = .ok (.goto 62, 3) := by decide +kernel
theorem dX11_nextSlot_148 : decode cX11_nextSlot 148 = .ok (.aload_n 0, 1) := by decide +kernel
theorem dX11_nextSlot_149 : decode cX11_nextSlot 149 = .ok (.getfield 16, 3) := by decide +kernel
theorem dX11_nextSlot_152 : decode cX11_nextSlot 152 = .ok (.iload_n 3, 1) := by decide +kernel
theorem dX11_nextSlot_153 : decode cX11_nextSlot 153 = .ok (.invokevirtual 41, 3) := by decide +kernel
theorem dX11_nextSlot_156 : decode cX11_nextSlot 156 = .ok (.checkcast 45, 3) := by decide +kernel
theorem dX11_nextSlot_159 : decode cX11_nextSlot 159 = .ok (.dup, 1) := by decide +kernel
theorem dX11_nextSlot_160 : decode cX11_nextSlot 160 = .ok (.getfield 196, 3) := by decide +kernel
theorem dX11_nextSlot_163 : decode cX11_nextSlot 163 = .ok (.iconst 1, 1) := by decide +kernel
theorem dX11_nextSlot_164 : decode cX11_nextSlot 164 = .ok (.iadd, 1) := by decide +kernel
theorem dX11_nextSlot_165 : decode cX11_nextSlot 165 = .ok (.putfield 196, 3) := by decide +kernel
theorem dX11_nextSlot_168 : decode cX11_nextSlot 168 = .ok (.aload_n 0, 1) := by decide +kernel
theorem dX11_nextSlot_169 : decode cX11_nextSlot 169 = .ok (.getfield 16, 3) := by decide +kernel
theorem dX11_nextSlot_172 : decode cX11_nextSlot 172 = .ok (.iload_n 3, 1) := by decide +kernel
theorem dX11_nextSlot_173 : decode cX11_nextSlot 173 = .ok (.invokevirtual 41, 3) := by decide +kernel
theorem dX11_nextSlot_176 : decode cX11_nextSlot 176 = .ok (.checkcast 45, 3) := by decide +kernel
theorem dX11_nextSlot_179 : decode cX11_nextSlot 179 = .ok (.dup, 1) := by decide +kernel
theorem dX11_nextSlot_180 : decode cX11_nextSlot 180 = .ok (.getfield 141, 3) := by decide +kernel
theorem dX11_nextSlot_183 : decode cX11_nextSlot 183 = .ok (.aload_n 0, 1) := by decide +kernel
theorem dX11_nextSlot_184 : decode cX11_nextSlot 184 = .ok (.aload_n 0, 1) := by decide +kernel
theorem dX11_nextSlot_185 : decode cX11_nextSlot 185 = .ok (.getfield 16, 3) := by decide +kernel
theorem dX11_nextSlot_188 : decode cX11_nextSlot 188 = .ok (.iload_n 3, 1) := by decide +kernel
theorem dX11_nextSlot_189 : decode cX11_nextSlot 189 = .ok (.invokevirtual 41, 3) := by decide +kernel
theorem dX11_nextSlot_192 : decode cX11_nextSlot 192 = .ok (.checkcast 45, 3) := by decide +kernel
theorem dX11_nextSlot_195 : decode cX11_nextSlot 195 = .ok (.getfield 135, 3) := by decide +kernel
theorem dX11_nextSlot_198 : decode cX11_nextSlot 198 = .ok (.iload_n 3, 1) := by decide +kernel
theorem dX11_nextSlot_199 : decode cX11_nextSlot 199 = .ok (.iload_n 2, 1) := by decide +kernel
theorem dX11_nextSlot_200 : decode cX11_nextSlot 200 = .ok (.invokevirtual 199, 3) := by decide +kernel
theorem dX11_nextSlot_203 : decode cX11_nextSlot 203 = .ok (.iand, 1) := by decide +kernel
theorem dX11_nextSlot_204 : decode cX11_nextSlot 204 = .ok (.putfield 141, 3) := by decide +kernel
theorem dX11_nextSlot_207 : decode cX11_nextSlot 207 = .ok (.iinc 3 1, 3) := by decide +kernel
theorem dX11_nextSlot_210 : decode cX11_nextSlot 210 = .ok (.goto (-84), 3) := by decide +kernel
theorem dX11_nextSlot_213 : decode cX11_nextSlot 213 = .ok (.iconst 0, 1) := by decide +kernel
theorem dX11_nextSlot_214 : decode cX11_nextSlot 214 = .ok (.istore_n 3, 1) := by decide +kernel
theorem dX11_nextSlot_215 : decode cX11_nextSlot 215 = .ok (.iload_n 3, 1) := by decide +kernel
theorem dX11_nextSlot_216 : decode cX11_nextSlot 216 = .ok (.aload_n 0, 1) := by decide +kernel
theorem dX11_nextSlot_217 : decode cX11_nextSlot 217 = .ok (.getfield 16, 3) := by decide +kernel
theorem dX11_nextSlot_220 : decode cX11_nextSlot 220 = .ok (.invokevirtual 33, 3) := by decide +kernel
theorem dX11_nextSlot_223 : decode cX11_nextSlot 223 = .ok (.if_icmp .ge 62, 3) := by decide +kernel
theorem dX11_nextSlot_226 : decode cX11_nextSlot 226 = .ok (.iload_n 2, 1) := by decide +kernel
theorem dX11_nextSlot_227 : decode cX11_nextSlot 227 = .ok (.iload_n 3, 1) := by decide +kernel
theorem dX11_nextSlot_228 : decode cX11_nextSlot 228 = .ok (.invokestatic 147, 3) := by decide +kernel
theorem dX11_nextSlot_231 : decode cX11_nextSlot 231 = .ok (.ifCond .ne 6, 3) := by decide +kernel
theorem dX11_nextSlot_234 : decode cX11_nextSlot 234 = .ok (.goto 45, 3) := by decide +kernel
theorem dX11_nextSlot_237 : decode cX11_nextSlot 237 = .ok (.aload_n 0, 1) := by decide +kernel
theorem dX11_nextSlot_238 : decode cX11_nextSlot 238 = .ok (.getfield 16, 3) := by decide +kernel
theorem dX11_nextSlot_241 : decode cX11_nextSlot 241 = .ok (.iload_n 3, 1) := by decide +kernel
theorem dX11_nextSlot_242 : decode cX11_nextSlot 242 = .ok (.invokevirtual 41, 3) := by decide +kernel
theorem dX11_nextSlot_245 : decode cX11_nextSlot 245 = .ok (.checkcast 45, 3) := by decide +kernel
theorem dX11_nextSlot_248 : decode cX11_nextSlot 248 = .ok (.dup, 1) := by decide +kernel
theorem dX11_nextSlot_249 : decode cX11_nextSlot 249 = .ok (.getfield 138, 3) := by decide +kernel
theorem dX11_nextSlot_252 : decode cX11_nextSlot 252 = .ok (.iconst 1, 1) := by decide +kernel
theorem dX11_nextSlot_253 : decode cX11_nextSlot 253 = .ok (.isub, 1) := by decide +kernel
theorem dX11_nextSlot_254 : decode cX11_nextSlot 254 = .ok (.putfield 138, 3) := by decide +kernel
theorem dX11_nextSlot_257 : decode cX11_nextSlot 257 = .ok (.aload_n 0, 1) := by decide +kernel
theorem dX11_nextSlot_258 : decode cX11_nextSlot 258 = .ok (.getfield 16, 3) := by decide +kernel
theorem dX11_nextSlot_261 : decode cX11_nextSlot 261 = .ok (.iload_n 3, 1) := by decide +kernel
theorem dX11_nextSlot_262 : decode cX11_nextSlot 262 = .ok (.invokevirtual 41, 3) := by decide +kernel
theorem dX11_nextSlot_265 : decode cX11_nextSlot 265 = .ok (.checkcast 45, 3) := by decide +kernel
theorem dX11_nextSlot_268 : decode cX11_nextSlot 268 = .ok (.getfield 138, 3) := by decide +kernel
theorem dX11_nextSlot_271 : decode cX11_nextSlot 271 = .ok (.ifCond .ne 8, 3) := by decide +kernel
theorem dX11_nextSlot_274 : decode cX11_nextSlot 274 = .ok (.aload_n 0, 1) := by decide +kernel
theorem dX11_nextSlot_275 : decode cX11_nextSlot 275 = .ok (.iload_n 3, 1) := by decide +kernel
theorem dX11_nextSlot_276 : decode cX11_nextSlot 276 = .ok (.invokevirtual 202, 3) := by decide +kernel
theorem dX11_nextSlot_279 : decode cX11_nextSlot 279 = .ok (.iinc 3 1, 3) := by decide +kernel
theorem dX11_nextSlot_282 : decode cX11_nextSlot 282 = .ok (.goto (-67), 3) := by decide +kernel
theorem dX11_nextSlot_285 : decode cX11_nextSlot 285 = .ok (.return_, 1) := by decide +kernel
theorem dX11_pass_0 : decode cX11_pass 0 = .ok (.aload_n 0, 1) := by decide +kernel
theorem dX11_pass_1 : decode cX11_pass 1 = .ok (.iload_n 1, 1) := by decide +kernel
theorem dX11_pass_2 : decode cX11_pass 2 = .ok (.iconst 1, 1) := by decide +kernel
theorem dX11_pass_3 : decode cX11_pass 3 = .ok (.sipush 200, 3) := by decide +kernel
theorem dX11_pass_6 : decode cX11_pass 6 = .ok (.invokestatic 37, 3) := by decide +kernel
theorem dX11_pass_9 : decode cX11_pass 9 = .ok (.ifCond .ne 7, 3) := by decide +kernel
theorem dX11_pass_12 : decode cX11_pass 12 = .ok (.iconst 1, 1) := by decide +kernel
theorem dX11_pass_13 : decode cX11_pass 13 = .ok (.goto 4, 3) := by decide +kernel
theorem dX11_pass_16 : decode cX11_pass 16 = .ok (.iconst 0, 1) := by decide +kernel
theorem dX11_pass_17 : decode cX11_pass 17 = .ok (.iconst 1, 1) := by decide +kernel
theorem dX11_pass_18 : decode cX11_pass 18 = .ok (.invokevirtual 71, 3) := by decide +kernel
theorem dX11_pass_21 : decode cX11_pass 21 = .ok (.ifCond .ne 28, 3) := by decide +kernel
theorem dX11_pass_24 : decode cX11_pass 24 = .ok (.aload_n 0, 1) := by decide +kernel
theorem dX11_pass_25 : decode cX11_pass 25 = .ok (.aload_n 0, 1) := by decide +kernel
theorem dX11_pass_26 : decode cX11_pass 26 = .ok (.getfield 111, 3) := by decide +kernel
theorem dX11_pass_29 : decode cX11_pass 29 = .ok (.iload_n 1, 1) := by decide +kernel
theorem dX11_pass_30 : decode cX11_pass 30 = .ok (.iadd, 1) := by decide +kernel
theorem dX11_pass_31 : decode cX11_pass 31 = .ok (.sipush 2000, 3) := by decide +kernel
theorem dX11_pass_34 : decode cX11_pass 34 = .ok (.if_icmp .le 7, 3) := by decide +kernel
theorem dX11_pass_37 : decode cX11_pass 37 = .ok (.iconst 1, 1) := by decide +kernel
theorem dX11_pass_38 : decode cX11_pass 38 = .ok (.goto 4, 3) := by decide +kernel
theorem dX11_pass_41 : decode cX11_pass 41 = .ok (.iconst 0, 1) := by decide +kernel
theorem dX11_pass_42 : decode cX11_pass 42 = .ok (.iconst 2, 1) := by decide +kernel
theorem dX11_pass_43 : decode cX11_pass 43 = .ok (.invokevirtual 29, 3) := by decide +kernel
theorem dX11_pass_46 : decode cX11_pass 46 = .ok (.ifCond .eq 5, 3) := by decide +kernel
theorem dX11_pass_49 : decode cX11_pass 49 = .ok (.iconst 0, 1) := by decide +kernel
theorem dX11_pass_50 : decode cX11_pass 50 = .ok (.ireturn, 1) := by decide +kernel
theorem dX11_pass_51 : decode cX11_pass 51 = .ok (.iconst 0, 1) := by decide +kernel
theorem dX11_pass_52 : decode cX11_pass 52 = .ok (.istore_n 2, 1) := by decide +kernel
theorem dX11_pass_53 : decode cX11_pass 53 = .ok (.iload_n 2, 1) := by decide +kernel
theorem dX11_pass_54 : decode cX11_pass 54 = .ok (.iload_n 1, 1) := by decide +kernel
theorem dX11_pass_55 : decode cX11_pass 55 = .ok (.if_icmp .ge 13, 3) := by decide +kernel
theorem dX11_pass_58 : decode cX11_pass 58 = .ok (.aload_n 0, 1) := by decide +kernel
theorem dX11_pass_59 : decode cX11_pass 59 = .ok (.invokevirtual 206, 3) := by decide +kernel
theorem dX11_pass_62 : decode cX11_pass 62 = .ok (.iinc 2 1, 3) := by decide +kernel
theorem dX11_pass_65 : decode cX11_pass 65 = .ok (.goto (-12), 3) := by decide +kernel
theorem dX11_pass_68 : decode cX11_pass 68 = .ok (.aload_n 0, 1) := by decide +kernel
theorem dX11_pass_69 : decode cX11_pass 69 = .ok (.getfield 111, 3) := by decide +kernel
theorem dX11_pass_72 : decode cX11_pass 72 = .ok (.ireturn, 1) := by decide +kernel
theorem dX11_exchangeOnce_0 : decode cX11_exchangeOnce 0 = .ok (.aload_n 0, 1) := by decide +kernel
theorem dX11_exchangeOnce_1 : decode cX11_exchangeOnce 1 = .ok (.getfield 16, 3) := by decide +kernel
theorem dX11_exchangeOnce_4 : decode cX11_exchangeOnce 4 = .ok (.invokevirtual 33, 3) := by decide +kernel
theorem dX11_exchangeOnce_7 : decode cX11_exchangeOnce 7 = .ok (.anewarray 130, 3) := by decide +kernel
theorem dX11_exchangeOnce_10 : decode cX11_exchangeOnce 10 = .ok (.astore_n 1, 1) := by decide +kernel
theorem dX11_exchangeOnce_11 : decode cX11_exchangeOnce 11 = .ok (.aload_n 0, 1) := by decide +kernel
theorem dX11_exchangeOnce_12 : decode cX11_exchangeOnce 12 = .ok (.getfield 16, 3) := by decide +kernel
theorem dX11_exchangeOnce_15 : decode cX11_exchangeOnce 15 = .ok (.invokevirtual 33, 3) := by decide +kernel
theorem dX11_exchangeOnce_18 : decode cX11_exchangeOnce 18 = .ok (.anewarray 130, 3) := by decide +kernel
theorem dX11_exchangeOnce_21 : decode cX11_exchangeOnce 21 = .ok (.astore_n 2, 1) := by decide +kernel
theorem dX11_exchangeOnce_22 : decode cX11_exchangeOnce 22 = .ok (.iconst 0, 1) := by decide +kernel
theorem dX11_exchangeOnce_23 : decode cX11_exchangeOnce 23 = .ok (.istore_n 3, 1) := by decide +kernel
theorem dX11_exchangeOnce_24 : decode cX11_exchangeOnce 24 = .ok (.iload_n 3, 1) := by decide +kernel
theorem dX11_exchangeOnce_25 : decode cX11_exchangeOnce 25 = .ok (.aload_n 1, 1) := by decide +kernel
theorem dX11_exchangeOnce_26 : decode cX11_exchangeOnce 26 = .ok (.arraylength, 1) := by decide +kernel
theorem dX11_exchangeOnce_27 : decode cX11_exchangeOnce 27 = .ok (.if_icmp .ge 55, 3) := by decide +kernel
theorem dX11_exchangeOnce_30 : decode cX11_exchangeOnce 30 = .ok (.aload_n 1, 1) := by decide +kernel
theorem dX11_exchangeOnce_31 : decode cX11_exchangeOnce 31 = .ok (.iload_n 3, 1) := by decide +kernel
theorem dX11_exchangeOnce_32 : decode cX11_exchangeOnce 32 = .ok (.aload_n 0, 1) := by decide +kernel
theorem dX11_exchangeOnce_33 : decode cX11_exchangeOnce 33 = .ok (.getfield 16, 3) := by decide +kernel
theorem dX11_exchangeOnce_36 : decode cX11_exchangeOnce 36 = .ok (.iload_n 3, 1) := by decide +kernel
theorem dX11_exchangeOnce_37 : decode cX11_exchangeOnce 37 = .ok (.invokevirtual 41, 3) := by decide +kernel
theorem dX11_exchangeOnce_40 : decode cX11_exchangeOnce 40 = .ok (.checkcast 45, 3) := by decide +kernel
theorem dX11_exchangeOnce_43 : decode cX11_exchangeOnce 43 = .ok (.getfield 209, 3) := by decide +kernel
theorem dX11_exchangeOnce_46 : decode cX11_exchangeOnce 46 = .ok (.invokevirtual 212, 3) := by decide +kernel
theorem dX11_exchangeOnce_49 : decode cX11_exchangeOnce 49 = .ok (.checkcast 130, 3) := by decide +kernel
theorem dX11_exchangeOnce_52 : decode cX11_exchangeOnce 52 = .ok (.aastore, 1) := by decide +kernel
theorem dX11_exchangeOnce_53 : decode cX11_exchangeOnce 53 = .ok (.aload_n 2, 1) := by decide +kernel
theorem dX11_exchangeOnce_54 : decode cX11_exchangeOnce 54 = .ok (.iload_n 3, 1) := by decide +kernel
theorem dX11_exchangeOnce_55 : decode cX11_exchangeOnce 55 = .ok (.aload_n 0, 1) := by decide +kernel
theorem dX11_exchangeOnce_56 : decode cX11_exchangeOnce 56 = .ok (.getfield 16, 3) := by decide +kernel
theorem dX11_exchangeOnce_59 : decode cX11_exchangeOnce 59 = .ok (.iload_n 3, 1) := by decide +kernel
theorem dX11_exchangeOnce_60 : decode cX11_exchangeOnce 60 = .ok (.invokevirtual 41, 3) := by decide +kernel
theorem dX11_exchangeOnce_63 : decode cX11_exchangeOnce 63 = .ok (.checkcast 45, 3) := by decide +kernel
theorem dX11_exchangeOnce_66 : decode cX11_exchangeOnce 66 = .ok (.getfield 126, 3) := by decide +kernel
theorem dX11_exchangeOnce_69 : decode cX11_exchangeOnce 69 = .ok (.invokevirtual 212, 3) := by decide +kernel
theorem dX11_exchangeOnce_72 : decode cX11_exchangeOnce 72 = .ok (.checkcast 130, 3) := by decide +kernel
theorem dX11_exchangeOnce_75 : decode cX11_exchangeOnce 75 = .ok (.aastore, 1) := by decide +kernel
theorem dX11_exchangeOnce_76 : decode cX11_exchangeOnce 76 = .ok (.iinc 3 1, 3) := by decide +kernel
theorem dX11_exchangeOnce_79 : decode cX11_exchangeOnce 79 = .ok (.goto (-55), 3) := by decide +kernel
theorem dX11_exchangeOnce_82 : decode cX11_exchangeOnce 82 = .ok (.iconst 0, 1) := by decide +kernel
theorem dX11_exchangeOnce_83 : decode cX11_exchangeOnce 83 = .ok (.istore_n 3, 1) := by decide +kernel
theorem dX11_exchangeOnce_84 : decode cX11_exchangeOnce 84 = .ok (.iload_n 3, 1) := by decide +kernel
theorem dX11_exchangeOnce_85 : decode cX11_exchangeOnce 85 = .ok (.aload_n 1, 1) := by decide +kernel
theorem dX11_exchangeOnce_86 : decode cX11_exchangeOnce 86 = .ok (.arraylength, 1) := by decide +kernel
theorem dX11_exchangeOnce_87 : decode cX11_exchangeOnce 87 = .ok (.if_icmp .ge 207, 3) := by decide +kernel
theorem dX11_exchangeOnce_90 : decode cX11_exchangeOnce 90 = .ok (.iconst 0, 1) := by decide +kernel
theorem dX11_exchangeOnce_91 : decode cX11_exchangeOnce 91 = .ok (.istore 4, 2) := by decide +kernel
theorem dX11_exchangeOnce_93 : decode cX11_exchangeOnce 93 = .ok (.iload 4, 2) := by decide +kernel
theorem dX11_exchangeOnce_95 : decode cX11_exchangeOnce 95 = .ok (.aload_n 1, 1) := by decide +kernel
theorem dX11_exchangeOnce_96 : decode cX11_exchangeOnce 96 = .ok (.arraylength, 1) := by decide +kernel
theorem dX11_exchangeOnce_97 : decode cX11_exchangeOnce 97 = .ok (.if_icmp .ge 191, 3) := by decide +kernel
theorem dX11_exchangeOnce_100 : decode cX11_exchangeOnce 100 = .ok (.iload_n 3, 1) := by decide +kernel
theorem dX11_exchangeOnce_101 : decode cX11_exchangeOnce 101 = .ok (.iload 4, 2) := by decide +kernel
theorem dX11_exchangeOnce_103 : decode cX11_exchangeOnce 103 = .ok (.if_icmp .ne 6, 3) := by decide +kernel
theorem dX11_exchangeOnce_106 : decode cX11_exchangeOnce 106 = .ok (.goto 176, 3) := by decide +kernel
theorem dX11_exchangeOnce_109 : decode cX11_exchangeOnce 109 = .ok (.aload_n 0, 1) := by decide +kernel
theorem dX11_exchangeOnce_110 : decode cX11_exchangeOnce 110 = .ok (.iload_n 3, 1) := by decide +kernel
theorem dX11_exchangeOnce_111 : decode cX11_exchangeOnce 111 = .ok (.iload 4, 2) := by decide +kernel
theorem dX11_exchangeOnce_113 : decode cX11_exchangeOnce 113 = .ok (.invokevirtual 64, 3) := by decide +kernel
theorem dX11_exchangeOnce_116 : decode cX11_exchangeOnce 116 = .ok (.ifCond .eq 8, 3) := by decide +kernel
theorem dX11_exchangeOnce_119 : decode cX11_exchangeOnce 119 = .ok (.iload 4, 2) := by decide +kernel
theorem dX11_exchangeOnce_121 : decode cX11_exchangeOnce 121 = .ok (.goto 4, 3) := by decide +kernel
theorem dX11_exchangeOnce_124 : decode cX11_exchangeOnce 124 = .ok (.iconst (-1), 1) := by decide +kernel
theorem dX11_exchangeOnce_125 : decode cX11_exchangeOnce 125 = .ok (.istore 5, 2) := by decide +kernel
theorem dX11_exchangeOnce_127 : decode cX11_exchangeOnce 127 = .ok (.iload 5, 2) := by decide +kernel
theorem dX11_exchangeOnce_129 : decode cX11_exchangeOnce 129 = .ok (.iconst (-1), 1) := by decide +kernel
theorem dX11_exchangeOnce_130 : decode cX11_exchangeOnce 130 = .ok (.if_icmp .ne 8, 3) := by decide +kernel
theorem dX11_exchangeOnce_133 : decode cX11_exchangeOnce 133 = .ok (.bipush 9, 2) := by decide +kernel
theorem dX11_exchangeOnce_135 : decode cX11_exchangeOnce 135 = .ok (.goto 4, 3) := by decide +kernel
theorem dX11_exchangeOnce_138 : decode cX11_exchangeOnce 138 = .ok (.iconst 1, 1) := by decide +kernel
theorem dX11_exchangeOnce_139 : decode cX11_exchangeOnce 139 = .ok (.istore 6, 2) := by decide +kernel
theorem dX11_exchangeOnce_141 : decode cX11_exchangeOnce 141 = .ok (.iconst 0, 1) := by decide +kernel
theorem dX11_exchangeOnce_142 : decode cX11_exchangeOnce 142 = .ok (.istore 7, 2) := by decide +kernel
theorem dX11_exchangeOnce_144 : decode cX11_exchangeOnce 144 = .ok (.iload 7, 2) := by decide +kernel
theorem dX11_exchangeOnce_146 : decode cX11_exchangeOnce 146 = .ok (.aload_n 1, 1) := by decide +kernel
theorem dX11_exchangeOnce_147 : decode cX11_exchangeOnce 147 = .ok (.arraylength, 1) := by decide +kernel
theorem dX11_exchangeOnce_148 : decode cX11_exchangeOnce 148 = .ok (.if_icmp .ge 86, 3) := by decide +kernel
theorem dX11_exchangeOnce_151 : decode cX11_exchangeOnce 151 = .ok (.iload 6, 2) := by decide +kernel
theorem dX11_exchangeOnce_153 : decode cX11_exchangeOnce 153 = .ok (.iconst 1, 1) := by decide +kernel
theorem dX11_exchangeOnce_154 : decode cX11_exchangeOnce 154 = .ok (.if_icmp .le 80, 3) := by decide +kernel
theorem dX11_exchangeOnce_157 : decode cX11_exchangeOnce 157 = .ok (.iload 7, 2) := by decide +kernel
theorem dX11_exchangeOnce_159 : decode cX11_exchangeOnce 159 = .ok (.iload 4, 2) := by decide +kernel
theorem dX11_exchangeOnce_161 : decode cX11_exchangeOnce 161 = .ok (.if_icmp .eq 67, 3) := by decide +kernel
theorem dX11_exchangeOnce_164 : decode cX11_exchangeOnce 164 = .ok (.aload_n 0, 1) := by decide +kernel
theorem dX11_exchangeOnce_165 : decode cX11_exchangeOnce 165 = .ok (.iload_n 3, 1) := by decide +kernel
theorem dX11_exchangeOnce_166 : decode cX11_exchangeOnce 166 = .ok (.iload 7, 2) := by decide +kernel
theorem dX11_exchangeOnce_168 : decode cX11_exchangeOnce 168 = .ok (.invokevirtual 64, 3) := by decide +kernel
theorem dX11_exchangeOnce_171 : decode cX11_exchangeOnce 171 = .ok (.ifCond .eq 57, 3) := by decide +kernel
theorem dX11_exchangeOnce_174 : decode cX11_exchangeOnce 174 = .ok (.aload_n 1, 1) := by decide +kernel
theorem dX11_exchangeOnce_175 : decode cX11_exchangeOnce 175 = .ok (.iload 7, 2) := by decide +kernel
theorem dX11_exchangeOnce_177 : decode cX11_exchangeOnce 177 = .ok (.aaload, 1) := by decide +kernel
theorem dX11_exchangeOnce_178 : decode cX11_exchangeOnce 178 = .ok (.iload 4, 2) := by decide +kernel
theorem dX11_exchangeOnce_180 : decode cX11_exchangeOnce 180 = .ok (.iaload, 1) := by decide +kernel
theorem dX11_exchangeOnce_181 : decode cX11_exchangeOnce 181 = .ok (.iconst (-1), 1) := by decide +kernel
theorem dX11_exchangeOnce_182 : decode cX11_exchangeOnce 182 = .ok (.if_icmp .eq 46, 3) := by decide +kernel
theorem dX11_exchangeOnce_185 : decode cX11_exchangeOnce 185 = .ok (.aload_n 2, 1) := by decide +kernel
theorem dX11_exchangeOnce_186 : decode cX11_exchangeOnce 186 = .ok (.iload 7, 2) := by decide +kernel
theorem dX11_exchangeOnce_188 : decode cX11_exchangeOnce 188 = .ok (.aaload, 1) := by decide +kernel
theorem dX11_exchangeOnce_189 : decode cX11_exchangeOnce 189 = .ok (.iload 4, 2) := by decide +kernel
theorem dX11_exchangeOnce_191 : decode cX11_exchangeOnce 191 = .ok (.iaload, 1) := by decide +kernel
theorem dX11_exchangeOnce_192 : decode cX11_exchangeOnce 192 = .ok (.iload_n 3, 1) := by decide +kernel
theorem dX11_exchangeOnce_193 : decode cX11_exchangeOnce 193 = .ok (.if_icmp .eq 35, 3) := by decide +kernel
theorem dX11_exchangeOnce_196 : decode cX11_exchangeOnce 196 = .ok (.aload_n 1, 1) := by decide +kernel
theorem dX11_exchangeOnce_197 : decode cX11_exchangeOnce 197 = .ok (.iload 7, 2) := by decide +kernel
theorem dX11_exchangeOnce_199 : decode cX11_exchangeOnce 199 = .ok (.aaload, 1) := by decide +kernel
theorem dX11_exchangeOnce_200 : decode cX11_exchangeOnce 200 = .ok (.iload 4, 2) := by decide +kernel
theorem dX11_exchangeOnce_202 : decode cX11_exchangeOnce 202 = .ok (.iaload, 1) := by decide +kernel
theorem dX11_exchangeOnce_203 : decode cX11_exchangeOnce 203 = .ok (.iconst 1, 1) := by decide +kernel
theorem dX11_exchangeOnce_204 : decode cX11_exchangeOnce 204 = .ok (.iadd, 1) := by decide +kernel
theorem dX11_exchangeOnce_205 : decode cX11_exchangeOnce 205 = .ok (.iload 6, 2) := by decide +kernel
theorem dX11_exchangeOnce_207 : decode cX11_exchangeOnce 207 = .ok (.if_icmp .lt 6, 3) := by decide +kernel
theorem dX11_exchangeOnce_210 : decode cX11_exchangeOnce 210 = .ok (.goto 18, 3) := by decide +kernel
theorem dX11_exchangeOnce_213 : decode cX11_exchangeOnce 213 = .ok (.iload 7, 2) := by decide +kernel
theorem dX11_exchangeOnce_215 : decode cX11_exchangeOnce 215 = .ok (.istore 5, 2) := by decide +kernel
theorem dX11_exchangeOnce_217 : decode cX11_exchangeOnce 217 = .ok (.aload_n 1, 1) := by decide +kernel
theorem dX11_exchangeOnce_218 : decode cX11_exchangeOnce 218 = .ok (.iload 7, 2) := by decide +kernel
theorem dX11_exchangeOnce_220 : decode cX11_exchangeOnce 220 = .ok (.aaload, 1) := by decide +kernel
theorem dX11_exchangeOnce_221 : decode cX11_exchangeOnce 221 = .ok (.iload 4, 2) := by decide +kernel
theorem dX11_exchangeOnce_223 : decode cX11_exchangeOnce 223 = .ok (.iaload, 1) := by decide +kernel
theorem dX11_exchangeOnce_224 : decode cX11_exchangeOnce 224 = .ok (.iconst 1, 1) := by decide +kernel
theorem dX11_exchangeOnce_225 : decode cX11_exchangeOnce 225 = .ok (.iadd, 1) := by decide +kernel
theorem dX11_exchangeOnce_226 : decode cX11_exchangeOnce 226 = .ok (.istore 6, 2) := by decide +kernel
theorem dX11_exchangeOnce_228 : decode cX11_exchangeOnce 228 = .ok (.iinc 7 1, 3) := by decide +kernel
theorem dX11_exchangeOnce_231 : decode cX11_exchangeOnce 231 = .ok (.goto (-87), 3) := by decide +kernel
theorem dX11_exchangeOnce_234 : decode cX11_exchangeOnce 234 = .ok (.aload_n 0, 1) := by decide +kernel
theorem dX11_exchangeOnce_235 : decode cX11_exchangeOnce 235 = .ok (.getfield 16, 3) := by decide +kernel
theorem dX11_exchangeOnce_238 : decode cX11_exchangeOnce 238 = .ok (.iload_n 3, 1) := by decide +kernel
theorem dX11_exchangeOnce_239 : decode cX11_exchangeOnce 239 = .ok (.invokevirtual 41, 3) := by decide +kernel
theorem dX11_exchangeOnce_242 : decode cX11_exchangeOnce 242 = .ok (.checkcast 45, 3) := by decide +kernel
theorem dX11_exchangeOnce_245 : decode cX11_exchangeOnce 245 = .ok (.getfield 209, 3) := by decide +kernel
theorem dX11_exchangeOnce_248 : decode cX11_exchangeOnce 248 = .ok (.iload 4, 2) := by decide +kernel
theorem dX11_exchangeOnce_250 : decode cX11_exchangeOnce 250 = .ok (.iload 5, 2) := by decide +kernel
theorem dX11_exchangeOnce_252 : decode cX11_exchangeOnce 252 = .ok (.iconst (-1), 1) := by decide +kernel
theorem dX11_exchangeOnce_253 : decode cX11_exchangeOnce 253 = .ok (.if_icmp .ne 7, 3) := by decide +kernel
theorem dX11_exchangeOnce_256 : decode cX11_exchangeOnce 256 = .ok (.iconst (-1), 1) := by decide +kernel
theorem dX11_exchangeOnce_257 : decode cX11_exchangeOnce 257 = .ok (.goto 5, 3) := by decide +kernel
theorem dX11_exchangeOnce_260 : decode cX11_exchangeOnce 260 = .ok (.iload 6, 2) := by decide +kernel
theorem dX11_exchangeOnce_262 : decode cX11_exchangeOnce 262 = .ok (.iastore, 1) := by decide +kernel
theorem dX11_exchangeOnce_263 : decode cX11_exchangeOnce 263 = .ok (.aload_n 0, 1) := by decide +kernel
theorem dX11_exchangeOnce_264 : decode cX11_exchangeOnce 264 = .ok (.getfield 16, 3) := by decide +kernel
theorem dX11_exchangeOnce_267 : decode cX11_exchangeOnce 267 = .ok (.iload_n 3, 1) := by decide +kernel
theorem dX11_exchangeOnce_268 : decode cX11_exchangeOnce 268 = .ok (.invokevirtual 41, 3) := by decide +kernel
theorem dX11_exchangeOnce_271 : decode cX11_exchangeOnce 271 = .ok (.checkcast 45, 3) := by decide +kernel
theorem dX11_exchangeOnce_274 : decode cX11_exchangeOnce 274 = .ok (.getfield 126, 3) := by decide +kernel
theorem dX11_exchangeOnce_277 : decode cX11_exchangeOnce 277 = .ok (.iload 4, 2) := by decide +kernel
theorem dX11_exchangeOnce_279 : decode cX11_exchangeOnce 279 = .ok (.iload 5, 2) := by decide +kernel
theorem dX11_exchangeOnce_281 : decode cX11_exchangeOnce 281 = .ok (.iastore, 1) := by decide +kernel
theorem dX11_exchangeOnce_282 : decode cX11_exchangeOnce 282 = .ok (.iinc 4 1, 3) := by decide +kernel
theorem dX11_exchangeOnce_285 : decode cX11_exchangeOnce 285 = .ok (.goto (-192), 3) := by decide +kernel
theorem dX11_exchangeOnce_288 : decode cX11_exchangeOnce 288 = .ok (.iinc 3 1, 3) := by decide +kernel
theorem dX11_exchangeOnce_291 : decode cX11_exchangeOnce 291 = .ok (.goto (-207), 3) := by decide +kernel
theorem dX11_exchangeOnce_294 : decode cX11_exchangeOnce 294 = .ok (.return_, 1) := by decide +kernel
theorem dX11_routed_0 : decode cX11_routed 0 = .ok (.iconst 0, 1) := by decide +kernel
theorem dX11_routed_1 : decode cX11_routed 1 = .ok (.istore_n 1, 1) := by decide +kernel
theorem dX11_routed_2 : decode cX11_routed 2 = .ok (.aload_n 0, 1) := by decide +kernel
theorem dX11_routed_3 : decode cX11_routed 3 = .ok (.getfield 16, 3) := by decide +kernel
theorem dX11_routed_6 : decode cX11_routed 6 = .ok (.invokevirtual 150, 3) := by decide +kernel
theorem dX11_routed_9 : decode cX11_routed 9 = .ok (.astore_n 2, 1) := by decide +kernel
theorem dX11_routed_10 : decode cX11_routed 10 = .ok (.aload_n 2, 1) := by decide +kernel
theorem dX11_routed_11 : decode cX11_routed 11 = .ok (.invokeinterface 154 1, 5) := by decide +kernel
theorem dX11_routed_16 : decode cX11_routed 16 = .ok (.ifCond .eq 67, 3) := by decide +kernel
theorem dX11_routed_19 : decode cX11_routed 19 = .ok (.aload_n 2, 1) := by decide +kernel
theorem dX11_routed_20 : decode cX11_routed 20 = .ok (.invokeinterface 159 1, 5) := by decide +kernel
theorem dX11_routed_25 : decode cX11_routed 25 = .ok (.checkcast 45, 3) := by decide +kernel
theorem dX11_routed_28 : decode cX11_routed 28 = .ok (.astore_n 3, 1) := by decide +kernel
theorem dX11_routed_29 : decode cX11_routed 29 = .ok (.aload_n 3, 1) := by decide +kernel
theorem dX11_routed_30 : decode cX11_routed 30 = .ok (.getfield 126, 3) := by decide +kernel
theorem dX11_routed_33 : decode cX11_routed 33 = .ok (.astore 4, 2) := by decide +kernel
theorem dX11_routed_35 : decode cX11_routed 35 = .ok (.aload 4, 2) := by decide +kernel
theorem dX11_routed_37 : decode cX11_routed 37 = .ok (.arraylength, 1) := by decide +kernel
theorem dX11_routed_38 : decode cX11_routed 38 = .ok (.istore 5, 2) := by decide +kernel
theorem dX11_routed_40 : decode cX11_routed 40 = .ok (.iconst 0, 1) := by decide +kernel
theorem dX11_routed_41 : decode cX11_routed 41 = .ok (.istore 6, 2) := by decide +kernel
theorem dX11_routed_43 : decode cX11_routed 43 = .ok (.iload 6, 2) := by decide +kernel
theorem dX11_routed_45 : decode cX11_routed 45 = .ok (.iload 5, 2) := by decide +kernel
theorem dX11_routed_47 : decode cX11_routed 47 = .ok (.if_icmp .ge 33, 3) := by decide +kernel
theorem dX11_routed_50 : decode cX11_routed 50 = .ok (.aload 4, 2) := by decide +kernel
theorem dX11_routed_52 : decode cX11_routed 52 = .ok (.iload 6, 2) := by decide +kernel
theorem dX11_routed_54 : decode cX11_routed 54 = .ok (.iaload, 1) := by decide +kernel
theorem dX11_routed_55 : decode cX11_routed 55 = .ok (.istore 7, 2) := by decide +kernel
theorem dX11_routed_57 : decode cX11_routed 57 = .ok (.iload_n 1, 1) := by decide +kernel
theorem dX11_routed_58 : decode cX11_routed 58 = .ok (.iload 7, 2) := by decide +kernel
theorem dX11_routed_60 : decode cX11_routed 60 = .ok (.iconst (-1), 1) := by decide +kernel
theorem dX11_routed_61 : decode cX11_routed 61 = .ok (.if_icmp .eq 7, 3) := by decide +kernel
theorem dX11_routed_64 : decode cX11_routed 64 = .ok (.iconst 1, 1) := by decide +kernel
theorem dX11_routed_65 : decode cX11_routed 65 = .ok (.goto 4, 3) := by decide +kernel
theorem dX11_routed_68 : decode cX11_routed 68 = .ok (.iconst 0, 1) := by decide +kernel
theorem dX11_routed_69 : decode cX11_routed 69 = .ok (.invokestatic 67, 3) := by decide +kernel
theorem dX11_routed_72 : decode cX11_routed 72 = .ok (.iadd, 1) := by decide +kernel
theorem dX11_routed_73 : decode cX11_routed 73 = .ok (.istore_n 1, 1) := by decide +kernel
theorem dX11_routed_74 : decode cX11_routed 74 = .ok (.iinc 6 1, 3) := by decide +kernel
theorem dX11_routed_77 : decode cX11_routed 77 = .ok (.goto (-34), 3) := by decide +kernel
theorem dX11_routed_80 : decode cX11_routed 80 = .ok (.goto (-70), 3) := by decide +kernel
theorem dX11_routed_83 : decode cX11_routed 83 = .ok (.iload_n 1, 1) := by decide +kernel
theorem dX11_routed_84 : decode cX11_routed 84 = .ok (.ireturn, 1) := by decide +kernel
theorem dX11_exchange_0 : decode cX11_exchange 0 = .ok (.aload_n 0, 1) := by decide +kernel
theorem dX11_exchange_1 : decode cX11_exchange 1 = .ok (.iload_n 1, 1) := by decide +kernel
theorem dX11_exchange_2 : decode cX11_exchange 2 = .ok (.iconst 1, 1) := by decide +kernel
theorem dX11_exchange_3 : decode cX11_exchange 3 = .ok (.bipush 10, 2) := by decide +kernel
theorem dX11_exchange_5 : decode cX11_exchange 5 = .ok (.invokestatic 37, 3) := by decide +kernel
theorem dX11_exchange_8 : decode cX11_exchange 8 = .ok (.ifCond .ne 7, 3) := by decide +kernel
theorem dX11_exchange_11 : decode cX11_exchange 11 = .ok (.iconst 1, 1) := by decide +kernel
theorem dX11_exchange_12 : decode cX11_exchange 12 = .ok (.goto 4, 3) := by decide +kernel
theorem dX11_exchange_15 : decode cX11_exchange 15 = .ok (.iconst 0, 1) := by decide +kernel
theorem dX11_exchange_16 : decode cX11_exchange 16 = .ok (.iconst 1, 1) := by decide +kernel
theorem dX11_exchange_17 : decode cX11_exchange 17 = .ok (.invokevirtual 71, 3) := by decide +kernel
theorem dX11_exchange_20 : decode cX11_exchange 20 = .ok (.ifCond .eq 5, 3) := by decide +kernel
theorem dX11_exchange_23 : decode cX11_exchange 23 = .ok (.iconst 0, 1) := by decide +kernel
theorem dX11_exchange_24 : decode cX11_exchange 24 = .ok (.ireturn, 1) := by decide +kernel
theorem dX11_exchange_25 : decode cX11_exchange 25 = .ok (.iconst 0, 1) := by decide +kernel
theorem dX11_exchange_26 : decode cX11_exchange 26 = .ok (.istore_n 2, 1) := by decide +kernel
theorem dX11_exchange_27 : decode cX11_exchange 27 = .ok (.iload_n 2, 1) := by decide +kernel
theorem dX11_exchange_28 : decode cX11_exchange 28 = .ok (.iload_n 1, 1) := by decide +kernel
theorem dX11_exchange_29 : decode cX11_exchange 29 = .ok (.if_icmp .ge 13, 3) := by decide +kernel
theorem dX11_exchange_32 : decode cX11_exchange 32 = .ok (.aload_n 0, 1) := by decide +kernel
theorem dX11_exchange_33 : decode cX11_exchange 33 = .ok (.invokevirtual 215, 3) := by decide +kernel
theorem dX11_exchange_36 : decode cX11_exchange 36 = .ok (.iinc 2 1, 3) := by decide +kernel
theorem dX11_exchange_39 : decode cX11_exchange 39 = .ok (.goto (-12), 3) := by decide +kernel
theorem dX11_exchange_42 : decode cX11_exchange 42 = .ok (.aload_n 0, 1) := by decide +kernel
theorem dX11_exchange_43 : decode cX11_exchange 43 = .ok (.dup, 1) := by decide +kernel
theorem dX11_exchange_44 : decode cX11_exchange 44 = .ok (.getfield 218, 3) := by decide +kernel
theorem dX11_exchange_47 : decode cX11_exchange 47 = .ok (.iload_n 1, 1) := by decide +kernel
theorem dX11_exchange_48 : decode cX11_exchange 48 = .ok (.iadd, 1) := by decide +kernel
theorem dX11_exchange_49 : decode cX11_exchange 49 = .ok (.putfield 218, 3) := by decide +kernel
theorem dX11_exchange_52 : decode cX11_exchange 52 = .ok (.aload_n 0, 1) := by decide +kernel
theorem dX11_exchange_53 : decode cX11_exchange 53 = .ok (.invokevirtual 221, 3) := by decide +kernel
theorem dX11_exchange_56 : decode cX11_exchange 56 = .ok (.ireturn, 1) := by decide +kernel
theorem dX11_bid_0 : decode cX11_bid 0 = .ok (.aload_n 0, 1) := by decide +kernel
theorem dX11_bid_1 : decode cX11_bid 1 = .ok (.iload_n 1, 1) := by decide +kernel
theorem dX11_bid_2 : decode cX11_bid 2 = .ok (.iconst 0, 1) := by decide +kernel
theorem dX11_bid_3 : decode cX11_bid 3 = .ok (.iconst 4, 1) := by decide +kernel
theorem dX11_bid_4 : decode cX11_bid 4 = .ok (.invokestatic 37, 3) := by decide +kernel
theorem dX11_bid_7 : decode cX11_bid 7 = .ok (.ifCond .eq 24, 3) := by decide +kernel
theorem dX11_bid_10 : decode cX11_bid 10 = .ok (.iload_n 2, 1) := by decide +kernel
theorem dX11_bid_11 : decode cX11_bid 11 = .ok (.iconst 1, 1) := by decide +kernel
theorem dX11_bid_12 : decode cX11_bid 12 = .ok (.bipush 63, 2) := by decide +kernel
theorem dX11_bid_14 : decode cX11_bid 14 = .ok (.invokestatic 37, 3) := by decide +kernel
theorem dX11_bid_17 : decode cX11_bid 17 = .ok (.ifCond .eq 14, 3) := by decide +kernel
theorem dX11_bid_20 : decode cX11_bid 20 = .ok (.iload_n 3, 1) := by decide +kernel
theorem dX11_bid_21 : decode cX11_bid 21 = .ok (.iconst 1, 1) := by decide +kernel
theorem dX11_bid_22 : decode cX11_bid 22 = .ok (.sipush 999, 3) := by decide +kernel
theorem dX11_bid_25 : decode cX11_bid 25 = .ok (.invokestatic 37, 3) := by decide +kernel
theorem dX11_bid_28 : decode cX11_bid 28 = .ok (.ifCond .ne 7, 3) := by decide +kernel
theorem dX11_bid_31 : decode cX11_bid 31 = .ok (.iconst 1, 1) := by decide +kernel
theorem dX11_bid_32 : decode cX11_bid 32 = .ok (.goto 4, 3) := by decide +kernel
theorem dX11_bid_35 : decode cX11_bid 35 = .ok (.iconst 0, 1) := by decide +kernel
theorem dX11_bid_36 : decode cX11_bid 36 = .ok (.iconst 1, 1) := by decide +kernel
theorem dX11_bid_37 : decode cX11_bid 37 = .ok (.invokevirtual 71, 3) := by decide +kernel
theorem dX11_bid_40 : decode cX11_bid 40 = .ok (.ifCond .ne 28, 3) := by decide +kernel
theorem dX11_bid_43 : decode cX11_bid 43 = .ok (.aload_n 0, 1) := by decide +kernel
theorem dX11_bid_44 : decode cX11_bid 44 = .ok (.aload_n 0, 1) := by decide +kernel
theorem dX11_bid_45 : decode cX11_bid 45 = .ok (.getfield 23, 3) := by decide +kernel
theorem dX11_bid_48 : decode cX11_bid 48 = .ok (.invokevirtual 33, 3) := by decide +kernel
theorem dX11_bid_51 : decode cX11_bid 51 = .ok (.bipush 10, 2) := by decide +kernel
theorem dX11_bid_53 : decode cX11_bid 53 = .ok (.if_icmp .ne 7, 3) := by decide +kernel
theorem dX11_bid_56 : decode cX11_bid 56 = .ok (.iconst 1, 1) := by decide +kernel
theorem dX11_bid_57 : decode cX11_bid 57 = .ok (.goto 4, 3) := by decide +kernel
theorem dX11_bid_60 : decode cX11_bid 60 = .ok (.iconst 0, 1) := by decide +kernel
theorem dX11_bid_61 : decode cX11_bid 61 = .ok (.iconst 2, 1) := by decide +kernel
theorem dX11_bid_62 : decode cX11_bid 62 = .ok (.invokevirtual 29, 3) := by decide +kernel
theorem dX11_bid_65 : decode cX11_bid 65 = .ok (.ifCond .eq 5, 3) := by decide +kernel
theorem dX11_bid_68 : decode cX11_bid 68 = .ok (.iconst 0, 1) := by decide +kernel
theorem dX11_bid_69 : decode cX11_bid 69 = .ok (.ireturn, 1) := by decide +kernel
theorem dX11_bid_70 : decode cX11_bid 70 = .ok (.aload_n 0, 1) := by decide +kernel
theorem dX11_bid_71 : decode cX11_bid 71 = .ok (.getfield 23, 3) := by decide +kernel
theorem dX11_bid_74 : decode cX11_bid 74 = .ok (.iconst 3, 1) := by decide +kernel
theorem dX11_bid_75 : decode cX11_bid 75 = .ok (.newarray .int, 2) := by decide +kernel
theorem dX11_bid_77 : decode cX11_bid 77 = .ok (.dup, 1) := by decide +kernel
theorem dX11_bid_78 : decode cX11_bid 78 = .ok (.iconst 0, 1) := by decide +kernel
theorem dX11_bid_79 : decode cX11_bid 79 = .ok (.iload_n 1, 1) := by decide +kernel
theorem dX11_bid_80 : decode cX11_bid 80 = .ok (.iastore, 1) := by decide +kernel
theorem dX11_bid_81 : decode cX11_bid 81 = .ok (.dup, 1) := by decide +kernel
theorem dX11_bid_82 : decode cX11_bid 82 = .ok (.iconst 1, 1) := by decide +kernel
theorem dX11_bid_83 : decode cX11_bid 83 = .ok (.iload_n 2, 1) := by decide +kernel
theorem dX11_bid_84 : decode cX11_bid 84 = .ok (.iastore, 1) := by decide +kernel
theorem dX11_bid_85 : decode cX11_bid 85 = .ok (.dup, 1) := by decide +kernel
theorem dX11_bid_86 : decode cX11_bid 86 = .ok (.iconst 2, 1) := by decide +kernel
theorem dX11_bid_87 : decode cX11_bid 87 = .ok (.iload_n 3, 1) := by decide +kernel
theorem dX11_bid_88 : decode cX11_bid 88 = .ok (.iastore, 1) := by decide +kernel
theorem dX11_bid_89 : decode cX11_bid 89 = .ok (.invokevirtual 77, 3) := by decide +kernel
theorem dX11_bid_92 : decode cX11_bid 92 = .ok (.pop, 1) := by decide +kernel
theorem dX11_bid_93 : decode cX11_bid 93 = .ok (.aload_n 0, 1) := by decide +kernel
theorem dX11_bid_94 : decode cX11_bid 94 = .ok (.getfield 23, 3) := by decide +kernel
theorem dX11_bid_97 : decode cX11_bid 97 = .ok (.invokevirtual 33, 3) := by decide +kernel
theorem dX11_bid_100 : decode cX11_bid 100 = .ok (.iconst 1, 1) := by decide +kernel
theorem dX11_bid_101 : decode cX11_bid 101 = .ok (.isub, 1) := by decide +kernel
theorem dX11_bid_102 : decode cX11_bid 102 = .ok (.ireturn, 1) := by decide +kernel
theorem dX11_canWin_0 : decode cX11_canWin 0 = .ok (.iconst 0, 1) := by decide +kernel
theorem dX11_canWin_1 : decode cX11_canWin 1 = .ok (.istore_n 3, 1) := by decide +kernel
theorem dX11_canWin_2 : decode cX11_canWin 2 = .ok (.iconst 0, 1) := by decide +kernel
theorem dX11_canWin_3 : decode cX11_canWin 3 = .ok (.istore 4, 2) := by decide +kernel
theorem dX11_canWin_5 : decode cX11_canWin 5 = .ok (.iconst 0, 1) := by decide +kernel
theorem dX11_canWin_6 : decode cX11_canWin 6 = .ok (.istore 5, 2) := by decide +kernel
theorem dX11_canWin_8 : decode cX11_canWin 8 = .ok (.iload 5, 2) := by decide +kernel
theorem dX11_canWin_10 : decode cX11_canWin 10 = .ok (.aload_n 0, 1) := by decide +kernel
theorem dX11_canWin_11 : decode cX11_canWin 11 = .ok (.getfield 23, 3) := by decide +kernel
theorem dX11_canWin_14 : decode cX11_canWin 14 = .ok (.invokevirtual 33, 3) := by decide +kernel
theorem dX11_canWin_17 : decode cX11_canWin 17 = .ok (.if_icmp .ge 84, 3) := by decide +kernel
theorem dX11_canWin_20 : decode cX11_canWin 20 = .ok (.iload_n 1, 1) := by decide +kernel
theorem dX11_canWin_21 : decode cX11_canWin 21 = .ok (.iload 5, 2) := by decide +kernel
theorem dX11_canWin_23 : decode cX11_canWin 23 = .ok (.invokestatic 147, 3) := by decide +kernel
theorem dX11_canWin_26 : decode cX11_canWin 26 = .ok (.ifCond .ne 6, 3) := by decide +kernel
theorem dX11_canWin_29 : decode cX11_canWin 29 = .ok (.goto 66, 3) := by decide +kernel
theorem dX11_canWin_32 : decode cX11_canWin 32 = .ok (.aload_n 0, 1) := by decide +kernel
theorem dX11_canWin_33 : decode cX11_canWin 33 = .ok (.getfield 23, 3) := by decide +kernel
theorem dX11_canWin_36 : decode cX11_canWin 36 = .ok (.iload 5, 2) := by decide +kernel
theorem dX11_canWin_38 : decode cX11_canWin 38 = .ok (.invokevirtual 41, 3) := by decide +kernel
theorem dX11_canWin_41 : decode cX11_canWin 41 = .ok (.checkcast 130, 3) := by decide +kernel
theorem dX11_canWin_44 : decode cX11_canWin 44 = .ok (.astore 6, 2) := by decide +kernel
theorem dX11_canWin_46 : decode cX11_canWin 46 = .ok (.aload 6, 2) := by decide +kernel
theorem dX11_canWin_48 : decode cX11_canWin 48 = .ok (.iconst 0, 1) := by decide +kernel
theorem dX11_canWin_49 : decode cX11_canWin 49 = .ok (.iaload, 1) := by decide +kernel
theorem dX11_canWin_50 : decode cX11_canWin 50 = .ok (.iload_n 2, 1) := by decide +kernel
theorem dX11_canWin_51 : decode cX11_canWin 51 = .ok (.if_icmp .eq 24, 3) := by decide +kernel
theorem dX11_canWin_54 : decode cX11_canWin 54 = .ok (.iload_n 3, 1) := by decide +kernel
theorem dX11_canWin_55 : decode cX11_canWin 55 = .ok (.aload 6, 2) := by decide +kernel
theorem dX11_canWin_57 : decode cX11_canWin 57 = .ok (.iconst 1, 1) := by decide +kernel
theorem dX11_canWin_58 : decode cX11_canWin 58 = .ok (.iaload, 1) := by decide +kernel
theorem dX11_canWin_59 : decode cX11_canWin 59 = .ok (.iand, 1) := by decide +kernel
theorem dX11_canWin_60 : decode cX11_canWin 60 = .ok (.ifCond .ne 15, 3) := by decide +kernel
theorem dX11_canWin_63 : decode cX11_canWin 63 = .ok (.iload 4, 2) := by decide +kernel
theorem dX11_canWin_65 : decode cX11_canWin 65 = .ok (.aload 6, 2) := by decide +kernel
theorem dX11_canWin_67 : decode cX11_canWin 67 = .ok (.iconst 0, 1) := by decide +kernel
theorem dX11_canWin_68 : decode cX11_canWin 68 = .ok (.iaload, 1) := by decide +kernel
theorem dX11_canWin_69 : decode cX11_canWin 69 = .ok (.invokestatic 147, 3) := by decide +kernel
theorem dX11_canWin_72 : decode cX11_canWin 72 = .ok (.ifCond .eq 5, 3) := by decide +kernel
theorem dX11_canWin_75 : decode cX11_canWin 75 = .ok (.iconst 0, 1) := by decide +kernel
theorem dX11_canWin_76 : decode cX11_canWin 76 = .ok (.ireturn, 1) := by decide +kernel
theorem dX11_canWin_77 : decode cX11_canWin 77 = .ok (.iload_n 3, 1) := by decide +kernel
theorem dX11_canWin_78 : decode cX11_canWin 78 = .ok (.aload 6, 2) := by decide +kernel
theorem dX11_canWin_80 : decode cX11_canWin 80 = .ok (.iconst 1, 1) := by decide +kernel
theorem dX11_canWin_81 : decode cX11_canWin 81 = .ok (.iaload, 1) := by decide +kernel
theorem dX11_canWin_82 : decode cX11_canWin 82 = .ok (.ior, 1) := by decide +kernel
theorem dX11_canWin_83 : decode cX11_canWin 83 = .ok (.istore_n 3, 1) := by decide +kernel
theorem dX11_canWin_84 : decode cX11_canWin 84 = .ok (.iload 4, 2) := by decide +kernel
theorem dX11_canWin_86 : decode cX11_canWin 86 = .ok (.iconst 1, 1) := by decide +kernel
theorem dX11_canWin_87 : decode cX11_canWin 87 = .ok (.aload 6, 2) := by decide +kernel
theorem dX11_canWin_89 : decode cX11_canWin 89 = .ok (.iconst 0, 1) := by decide +kernel
theorem dX11_canWin_90 : decode cX11_canWin 90 = .ok (.iaload, 1) := by decide +kernel
theorem dX11_canWin_91 : decode cX11_canWin 91 = .ok (.ishl, 1) := by decide +kernel
theorem dX11_canWin_92 : decode cX11_canWin 92 = .ok (.ior, 1) := by decide +kernel
theorem dX11_canWin_93 : decode cX11_canWin 93 = .ok (.istore 4, 2) := by decide +kernel
theorem dX11_canWin_95 : decode cX11_canWin 95 = .ok (.iinc 5 1, 3) := by decide +kernel
theorem dX11_canWin_98 : decode cX11_canWin 98 = .ok (.goto (-90), 3) := by decide +kernel
theorem dX11_canWin_101 : decode cX11_canWin 101 = .ok (.iconst 1, 1) := by decide +kernel
theorem dX11_canWin_102 : decode cX11_canWin 102 = .ok (.ireturn, 1) := by decide +kernel
theorem dX11_priceOf_0 : decode cX11_priceOf 0 = .ok (.iconst 0, 1) := by decide +kernel
theorem dX11_priceOf_1 : decode cX11_priceOf 1 = .ok (.istore_n 3, 1) := by decide +kernel
theorem dX11_priceOf_2 : decode cX11_priceOf 2 = .ok (.iconst 0, 1) := by decide +kernel
theorem dX11_priceOf_3 : decode cX11_priceOf 3 = .ok (.istore 4, 2) := by decide +kernel
theorem dX11_priceOf_5 : decode cX11_priceOf 5 = .ok (.iload 4, 2) := by decide +kernel
theorem dX11_priceOf_7 : decode cX11_priceOf 7 = .ok (.aload_n 0, 1) := by decide +kernel
theorem dX11_priceOf_8 : decode cX11_priceOf 8 = .ok (.getfield 23, 3) := by decide +kernel
theorem dX11_priceOf_11 : decode cX11_priceOf 11 = .ok (.invokevirtual 33, 3) := by decide +kernel
theorem dX11_priceOf_14 : decode cX11_priceOf 14 = .ok (.if_icmp .ge 53, 3) := by decide +kernel
theorem dX11_priceOf_17 : decode cX11_priceOf 17 = .ok (.iload_n 1, 1) := by decide +kernel
theorem dX11_priceOf_18 : decode cX11_priceOf 18 = .ok (.iload 4, 2) := by decide +kernel
theorem dX11_priceOf_20 : decode cX11_priceOf 20 = .ok (.invokestatic 147, 3) := by decide +kernel
theorem dX11_priceOf_23 : decode cX11_priceOf 23 = .ok (.ifCond .eq 38, 3) := by decide +kernel
theorem dX11_priceOf_26 : decode cX11_priceOf 26 = .ok (.aload_n 0, 1) := by decide +kernel
theorem dX11_priceOf_27 : decode cX11_priceOf 27 = .ok (.getfield 23, 3) := by decide +kernel
theorem dX11_priceOf_30 : decode cX11_priceOf 30 = .ok (.iload 4, 2) := by decide +kernel
theorem dX11_priceOf_32 : decode cX11_priceOf 32 = .ok (.invokevirtual 41, 3) := by decide +kernel
theorem dX11_priceOf_35 : decode cX11_priceOf 35 = .ok (.checkcast 130, 3) := by decide +kernel
theorem dX11_priceOf_38 : decode cX11_priceOf 38 = .ok (.iconst 0, 1) := by decide +kernel
theorem dX11_priceOf_39 : decode cX11_priceOf 39 = .ok (.iaload, 1) := by decide +kernel
theorem dX11_priceOf_40 : decode cX11_priceOf 40 = .ok (.iload_n 2, 1) := by decide +kernel
theorem dX11_priceOf_41 : decode cX11_priceOf 41 = .ok (.if_icmp .eq 20, 3) := by decide +kernel
theorem dX11_priceOf_44 : decode cX11_priceOf 44 = .ok (.iload_n 3, 1) := by decide +kernel
theorem dX11_priceOf_45 : decode cX11_priceOf 45 = .ok (.aload_n 0, 1) := by decide +kernel
theorem dX11_priceOf_46 : decode cX11_priceOf 46 = .ok (.getfield 23, 3) := by decide +kernel
theorem dX11_priceOf_49 : decode cX11_priceOf 49 = .ok (.iload 4, 2) := by decide +kernel
theorem dX11_priceOf_51 : decode cX11_priceOf 51 = .ok (.invokevirtual 41, 3) := by decide +kernel
theorem dX11_priceOf_54 : decode cX11_priceOf 54 = .ok (.checkcast 130, 3) := by decide +kernel
theorem dX11_priceOf_57 : decode cX11_priceOf 57 = .ok (.iconst 2, 1) := by decide +kernel
theorem dX11_priceOf_58 : decode cX11_priceOf 58 = .ok (.iaload, 1) := by decide +kernel
theorem dX11_priceOf_59 : decode cX11_priceOf 59 = .ok (.iadd, 1) := by decide +kernel
theorem dX11_priceOf_60 : decode cX11_priceOf 60 = .ok (.istore_n 3, 1) := by decide +kernel
theorem dX11_priceOf_61 : decode cX11_priceOf 61 = .ok (.iinc 4 1, 3) := by decide +kernel
theorem dX11_priceOf_64 : decode cX11_priceOf 64 = .ok (.goto (-59), 3) := by decide +kernel
theorem dX11_priceOf_67 : decode cX11_priceOf 67 = .ok (.iload_n 3, 1) := by decide +kernel
theorem dX11_priceOf_68 : decode cX11_priceOf 68 = .ok (.ireturn, 1) := by decide +kernel
theorem dX11_winners_0 : decode cX11_winners 0 = .ok (.iconst 0, 1) := by decide +kernel
theorem dX11_winners_1 : decode cX11_winners 1 = .ok (.istore_n 2, 1) := by decide +kernel
theorem dX11_winners_2 : decode cX11_winners 2 = .ok (.iconst 0, 1) := by decide +kernel
theorem dX11_winners_3 : decode cX11_winners 3 = .ok (.istore_n 3, 1) := by decide +kernel
theorem dX11_winners_4 : decode cX11_winners 4 = .ok (.iload_n 3, 1) := by decide +kernel
theorem dX11_winners_5 : decode cX11_winners 5 = .ok (.iconst 1, 1) := by decide +kernel
theorem dX11_winners_6 : decode cX11_winners 6 = .ok (.aload_n 0, 1) := by decide +kernel
theorem dX11_winners_7 : decode cX11_winners 7 = .ok (.getfield 23, 3) := by decide +kernel
theorem dX11_winners_10 : decode cX11_winners 10 = .ok (.invokevirtual 33, 3) := by decide +kernel
theorem dX11_winners_13 : decode cX11_winners 13 = .ok (.ishl, 1) := by decide +kernel
theorem dX11_winners_14 : decode cX11_winners 14 = .ok (.if_icmp .ge 35, 3) := by decide +kernel
theorem dX11_winners_17 : decode cX11_winners 17 = .ok (.aload_n 0, 1) := by decide +kernel
theorem dX11_winners_18 : decode cX11_winners 18 = .ok (.iload_n 3, 1) := by decide +kernel
theorem dX11_winners_19 : decode cX11_winners 19 = .ok (.iload_n 1, 1) := by decide +kernel
theorem dX11_winners_20 : decode cX11_winners 20 = .ok (.invokevirtual 224, 3) := by decide +kernel
theorem dX11_winners_23 : decode cX11_winners 23 = .ok (.ifCond .eq 20, 3) := by decide +kernel
theorem dX11_winners_26 : decode cX11_winners 26 = .ok (.aload_n 0, 1) := by decide +kernel
theorem dX11_winners_27 : decode cX11_winners 27 = .ok (.iload_n 3, 1) := by decide +kernel
theorem dX11_winners_28 : decode cX11_winners 28 = .ok (.iconst (-1), 1) := by decide +kernel
theorem dX11_winners_29 : decode cX11_winners 29 = .ok (.invokevirtual 227, 3) := by decide +kernel
theorem dX11_winners_32 : decode cX11_winners 32 = .ok (.aload_n 0, 1) := by decide +kernel
theorem dX11_winners_33 : decode cX11_winners 33 = .ok (.iload_n 2, 1) := by decide +kernel
theorem dX11_winners_34 : decode cX11_winners 34 = .ok (.iconst (-1), 1) := by decide +kernel
theorem dX11_winners_35 : decode cX11_winners 35 = .ok (.invokevirtual 227, 3) := by decide +kernel
theorem dX11_winners_38 : decode cX11_winners 38 = .ok (.if_icmp .le 5, 3) := by decide +kernel
theorem dX11_winners_41 : decode cX11_winners 41 = .ok (.iload_n 3, 1) := by decide +kernel
theorem dX11_winners_42 : decode cX11_winners 42 = .ok (.istore_n 2, 1) := by decide +kernel
theorem dX11_winners_43 : decode cX11_winners 43 = .ok (.iinc 3 1, 3) := by decide +kernel
theorem dX11_winners_46 : decode cX11_winners 46 = .ok (.goto (-42), 3) := by decide +kernel
theorem dX11_winners_49 : decode cX11_winners 49 = .ok (.iload_n 2, 1) := by decide +kernel
theorem dX11_winners_50 : decode cX11_winners 50 = .ok (.ireturn, 1) := by decide +kernel
theorem dX11_pays_0 : decode cX11_pays 0 = .ok (.aload_n 0, 1) := by decide +kernel
theorem dX11_pays_1 : decode cX11_pays 1 = .ok (.iload_n 2, 1) := by decide +kernel
theorem dX11_pays_2 : decode cX11_pays 2 = .ok (.iload_n 1, 1) := by decide +kernel
theorem dX11_pays_3 : decode cX11_pays 3 = .ok (.invokevirtual 227, 3) := by decide +kernel
theorem dX11_pays_6 : decode cX11_pays 6 = .ok (.aload_n 0, 1) := by decide +kernel
theorem dX11_pays_7 : decode cX11_pays 7 = .ok (.iload_n 2, 1) := by decide +kernel
theorem dX11_pays_8 : decode cX11_pays 8 = .ok (.iconst (-1), 1) := by decide +kernel
theorem dX11_pays_9 : decode cX11_pays 9 = .ok (.invokevirtual 227, 3) := by decide +kernel
theorem dX11_pays_12 : decode cX11_pays 12 = .ok (.if_icmp .ne 7, 3) := by decide +kernel
theorem dX11_pays_15 : decode cX11_pays 15 = .ok (.iconst 0, 1) := by decide +kernel
theorem dX11_pays_16 : decode cX11_pays 16 = .ok (.goto 20, 3) := by decide +kernel
theorem dX11_pays_19 : decode cX11_pays 19 = .ok (.aload_n 0, 1) := by decide +kernel
theorem dX11_pays_20 : decode cX11_pays 20 = .ok (.aload_n 0, 1) := by decide +kernel
theorem dX11_pays_21 : decode cX11_pays 21 = .ok (.iload_n 1, 1) := by decide +kernel
theorem dX11_pays_22 : decode cX11_pays 22 = .ok (.invokevirtual 230, 3) := by decide +kernel
theorem dX11_pays_25 : decode cX11_pays 25 = .ok (.iconst (-1), 1) := by decide +kernel
theorem dX11_pays_26 : decode cX11_pays 26 = .ok (.invokevirtual 227, 3) := by decide +kernel
theorem dX11_pays_29 : decode cX11_pays 29 = .ok (.aload_n 0, 1) := by decide +kernel
theorem dX11_pays_30 : decode cX11_pays 30 = .ok (.iload_n 2, 1) := by decide +kernel
theorem dX11_pays_31 : decode cX11_pays 31 = .ok (.iload_n 1, 1) := by decide +kernel
theorem dX11_pays_32 : decode cX11_pays 32 = .ok (.invokevirtual 227, 3) := by decide +kernel
theorem dX11_pays_35 : decode cX11_pays 35 = .ok (.isub, 1) := by decide +kernel
theorem dX11_pays_36 : decode cX11_pays 36 = .ok (.ireturn, 1) := by decide +kernel
theorem dX11_auctionNow_0 : decode cX11_auctionNow 0 = .ok (.aload_n 0, 1) := by decide +kernel
theorem dX11_auctionNow_1 : decode cX11_auctionNow 1 = .ok (.iconst (-1), 1) := by decide +kernel
theorem dX11_auctionNow_2 : decode cX11_auctionNow 2 = .ok (.invokevirtual 230, 3) := by decide +kernel
theorem dX11_auctionNow_5 : decode cX11_auctionNow 5 = .ok (.istore_n 1, 1) := by decide +kernel
theorem dX11_auctionNow_6 : decode cX11_auctionNow 6 = .ok (.bipush 7, 2) := by decide +kernel
theorem dX11_auctionNow_8 : decode cX11_auctionNow 8 = .ok (.newarray .int, 2) := by decide +kernel
theorem dX11_auctionNow_10 : decode cX11_auctionNow 10 = .ok (.dup, 1) := by decide +kernel
theorem dX11_auctionNow_11 : decode cX11_auctionNow 11 = .ok (.iconst 0, 1) := by decide +kernel
theorem dX11_auctionNow_12 : decode cX11_auctionNow 12 = .ok (.iload_n 1, 1) := by decide +kernel
theorem dX11_auctionNow_13 : decode cX11_auctionNow 13 = .ok (.iastore, 1) := by decide +kernel
theorem dX11_auctionNow_14 : decode cX11_auctionNow 14 = .ok (.dup, 1) := by decide +kernel
theorem dX11_auctionNow_15 : decode cX11_auctionNow 15 = .ok (.iconst 1, 1) := by decide +kernel
theorem dX11_auctionNow_16 : decode cX11_auctionNow 16 = .ok (.aload_n 0, 1) := by decide +kernel
theorem dX11_auctionNow_17 : decode cX11_auctionNow 17 = .ok (.iload_n 1, 1) := by decide +kernel
theorem dX11_auctionNow_18 : decode cX11_auctionNow 18 = .ok (.iconst (-1), 1) := by decide +kernel
theorem dX11_auctionNow_19 : decode cX11_auctionNow 19 = .ok (.invokevirtual 227, 3) := by decide +kernel
theorem dX11_auctionNow_22 : decode cX11_auctionNow 22 = .ok (.iastore, 1) := by decide +kernel
theorem dX11_auctionNow_23 : decode cX11_auctionNow 23 = .ok (.dup, 1) := by decide +kernel
theorem dX11_auctionNow_24 : decode cX11_auctionNow 24 = .ok (.iconst 2, 1) := by decide +kernel
theorem dX11_auctionNow_25 : decode cX11_auctionNow 25 = .ok (.iconst 0, 1) := by decide +kernel
theorem dX11_auctionNow_26 : decode cX11_auctionNow 26 = .ok (.iastore, 1) := by decide +kernel
theorem dX11_auctionNow_27 : decode cX11_auctionNow 27 = .ok (.dup, 1) := by decide +kernel
theorem dX11_auctionNow_28 : decode cX11_auctionNow 28 = .ok (.iconst 3, 1) := by decide +kernel
theorem dX11_auctionNow_29 : decode cX11_auctionNow 29 = .ok (.iconst 0, 1) := by decide +kernel
theorem dX11_auctionNow_30 : decode cX11_auctionNow 30 = .ok (.iastore, 1) := by decide +kernel
theorem dX11_auctionNow_31 : decode cX11_auctionNow 31 = .ok (.dup, 1) := by decide +kernel
theorem dX11_auctionNow_32 : decode cX11_auctionNow 32 = .ok (.iconst 4, 1) := by decide +kernel
theorem dX11_auctionNow_33 : decode cX11_auctionNow 33 = .ok (.iconst 0, 1) := by decide +kernel
theorem dX11_auctionNow_34 : decode cX11_auctionNow 34 = .ok (.iastore, 1) := by decide +kernel
theorem dX11_auctionNow_35 : decode cX11_auctionNow 35 = .ok (.dup, 1) := by decide +kernel
theorem dX11_auctionNow_36 : decode cX11_auctionNow 36 = .ok (.iconst 5, 1) := by decide +kernel
theorem dX11_auctionNow_37 : decode cX11_auctionNow 37 = .ok (.iconst 0, 1) := by decide +kernel
theorem dX11_auctionNow_38 : decode cX11_auctionNow 38 = .ok (.iastore, 1) := by decide +kernel
theorem dX11_auctionNow_39 : decode cX11_auctionNow 39 = .ok (.dup, 1) := by decide +kernel
theorem dX11_auctionNow_40 : decode cX11_auctionNow 40 = .ok (.bipush 6, 2) := by decide +kernel
theorem dX11_auctionNow_42 : decode cX11_auctionNow 42 = .ok (.iconst 0, 1) := by decide +kernel
theorem dX11_auctionNow_43 : decode cX11_auctionNow 43 = .ok (.iastore, 1) := by decide +kernel
theorem dX11_auctionNow_44 : decode cX11_auctionNow 44 = .ok (.astore_n 2, 1) := by decide +kernel
theorem dX11_auctionNow_45 : decode cX11_auctionNow 45 = .ok (.iconst 0, 1) := by decide +kernel
theorem dX11_auctionNow_46 : decode cX11_auctionNow 46 = .ok (.istore_n 3, 1) := by decide +kernel
theorem dX11_auctionNow_47 : decode cX11_auctionNow 47 = .ok (.iload_n 3, 1) := by decide +kernel
theorem dX11_auctionNow_48 : decode cX11_auctionNow 48 = .ok (.iconst 5, 1) := by decide +kernel
theorem dX11_auctionNow_49 : decode cX11_auctionNow 49 = .ok (.if_icmp .ge 20, 3) := by decide +kernel
theorem dX11_auctionNow_52 : decode cX11_auctionNow 52 = .ok (.aload_n 2, 1) := by decide +kernel
theorem dX11_auctionNow_53 : decode cX11_auctionNow 53 = .ok (.iconst 2, 1) := by decide +kernel
theorem dX11_auctionNow_54 : decode cX11_auctionNow 54 = .ok (.iload_n 3, 1) := by decide +kernel
theorem dX11_auctionNow_55 : decode cX11_auctionNow 55 = .ok (.iadd, 1) := by decide +kernel
theorem dX11_auctionNow_56 : decode cX11_auctionNow 56 = .ok (.aload_n 0, 1) := by decide +kernel
theorem dX11_auctionNow_57 : decode cX11_auctionNow 57 = .ok (.iload_n 3, 1) := by decide +kernel
theorem dX11_auctionNow_58 : decode cX11_auctionNow 58 = .ok (.iload_n 1, 1) := by decide +kernel
theorem dX11_auctionNow_59 : decode cX11_auctionNow 59 = .ok (.invokevirtual 233, 3) := by decide +kernel
theorem dX11_auctionNow_62 : decode cX11_auctionNow 62 = .ok (.iastore, 1) := by decide +kernel
theorem dX11_auctionNow_63 : decode cX11_auctionNow 63 = .ok (.iinc 3 1, 3) := by decide +kernel
theorem dX11_auctionNow_66 : decode cX11_auctionNow 66 = .ok (.goto (-19), 3) := by decide +kernel
theorem dX11_auctionNow_69 : decode cX11_auctionNow 69 = .ok (.aload_n 2, 1) := by decide +kernel
theorem dX11_auctionNow_70 : decode cX11_auctionNow 70 = .ok (.areturn, 1) := by decide +kernel
theorem dX11_sell_0 : decode cX11_sell 0 = .ok (.aload_n 0, 1) := by decide +kernel
theorem dX11_sell_1 : decode cX11_sell 1 = .ok (.iconst 0, 1) := by decide +kernel
theorem dX11_sell_2 : decode cX11_sell 2 = .ok (.putfield 26, 3) := by decide +kernel
theorem dX11_sell_5 : decode cX11_sell 5 = .ok (.aload_n 0, 1) := by decide +kernel
theorem dX11_sell_6 : decode cX11_sell 6 = .ok (.invokevirtual 236, 3) := by decide +kernel
theorem dX11_sell_9 : decode cX11_sell 9 = .ok (.astore_n 1, 1) := by decide +kernel
theorem dX11_sell_10 : decode cX11_sell 10 = .ok (.iconst 0, 1) := by decide +kernel
theorem dX11_sell_11 : decode cX11_sell 11 = .ok (.istore_n 2, 1) := by decide +kernel
theorem dX11_sell_12 : decode cX11_sell 12 = .ok (.iconst 0, 1) := by decide +kernel
theorem dX11_sell_13 : decode cX11_sell 13 = .ok (.istore_n 3, 1) := by decide +kernel
theorem dX11_sell_14 : decode cX11_sell 14 = .ok (.iload_n 3, 1) := by decide +kernel
theorem dX11_sell_15 : decode cX11_sell 15 = .ok (.iconst 5, 1) := by decide +kernel
theorem dX11_sell_16 : decode cX11_sell 16 = .ok (.if_icmp .ge 17, 3) := by decide +kernel
theorem dX11_sell_19 : decode cX11_sell 19 = .ok (.iload_n 2, 1) := by decide +kernel
theorem dX11_sell_20 : decode cX11_sell 20 = .ok (.aload_n 1, 1) := by decide +kernel
theorem dX11_sell_21 : decode cX11_sell 21 = .ok (.iconst 2, 1) := by decide +kernel
theorem dX11_sell_22 : decode cX11_sell 22 = .ok (.iload_n 3, 1) := by decide +kernel
theorem dX11_sell_23 : decode cX11_sell 23 = .ok (.iadd, 1) := by decide +kernel
theorem dX11_sell_24 : decode cX11_sell 24 = .ok (.iaload, 1) := by decide +kernel
theorem dX11_sell_25 : decode cX11_sell 25 = .ok (.iadd, 1) := by decide +kernel
theorem dX11_sell_26 : decode cX11_sell 26 = .ok (.istore_n 2, 1) := by decide +kernel
theorem dX11_sell_27 : decode cX11_sell 27 = .ok (.iinc 3 1, 3) := by decide +kernel
theorem dX11_sell_30 : decode cX11_sell 30 = .ok (.goto (-16), 3) := by decide +kernel
theorem dX11_sell_33 : decode cX11_sell 33 = .ok (.aload_n 0, 1) := by decide +kernel
theorem dX11_sell_34 : decode cX11_sell 34 = .ok (.dup, 1) := by decide +kernel
theorem dX11_sell_35 : decode cX11_sell 35 = .ok (.getfield 240, 3) := by decide +kernel
theorem dX11_sell_38 : decode cX11_sell 38 = .ok (.iload_n 2, 1) := by decide +kernel
theorem dX11_sell_39 : decode cX11_sell 39 = .ok (.iadd, 1) := by decide +kernel
theorem dX11_sell_40 : decode cX11_sell 40 = .ok (.putfield 240, 3) := by decide +kernel
theorem dX11_sell_43 : decode cX11_sell 43 = .ok (.aload_n 0, 1) := by decide +kernel
theorem dX11_sell_44 : decode cX11_sell 44 = .ok (.getfield 23, 3) := by decide +kernel
theorem dX11_sell_47 : decode cX11_sell 47 = .ok (.invokevirtual 243, 3) := by decide +kernel
theorem dX11_sell_50 : decode cX11_sell 50 = .ok (.iload_n 2, 1) := by decide +kernel
theorem dX11_sell_51 : decode cX11_sell 51 = .ok (.ireturn, 1) := by decide +kernel
theorem dX11_knock_0 : decode cX11_knock 0 = .ok (.aload_n 0, 1) := by decide +kernel
theorem dX11_knock_1 : decode cX11_knock 1 = .ok (.iconst 0, 1) := by decide +kernel
theorem dX11_knock_2 : decode cX11_knock 2 = .ok (.putfield 26, 3) := by decide +kernel
theorem dX11_knock_5 : decode cX11_knock 5 = .ok (.aload_n 0, 1) := by decide +kernel
theorem dX11_knock_6 : decode cX11_knock 6 = .ok (.dup, 1) := by decide +kernel
theorem dX11_knock_7 : decode cX11_knock 7 = .ok (.getfield 246, 3) := by decide +kernel
theorem dX11_knock_10 : decode cX11_knock 10 = .ok (.iconst 1, 1) := by decide +kernel
theorem dX11_knock_11 : decode cX11_knock 11 = .ok (.iadd, 1) := by decide +kernel
theorem dX11_knock_12 : decode cX11_knock 12 = .ok (.putfield 246, 3) := by decide +kernel
theorem dX11_knock_15 : decode cX11_knock 15 = .ok (.aload_n 0, 1) := by decide +kernel
theorem dX11_knock_16 : decode cX11_knock 16 = .ok (.getfield 246, 3) := by decide +kernel
theorem dX11_knock_19 : decode cX11_knock 19 = .ok (.ireturn, 1) := by decide +kernel
theorem dX11_hears_0 : decode cX11_hears 0 = .ok (.aload_n 0, 1) := by decide +kernel
theorem dX11_hears_1 : decode cX11_hears 1 = .ok (.aload_n 0, 1) := by decide +kernel
theorem dX11_hears_2 : decode cX11_hears 2 = .ok (.iload_n 1, 1) := by decide +kernel
theorem dX11_hears_3 : decode cX11_hears 3 = .ok (.invokevirtual 81, 3) := by decide +kernel
theorem dX11_hears_6 : decode cX11_hears 6 = .ok (.ifCond .ne 11, 3) := by decide +kernel
theorem dX11_hears_9 : decode cX11_hears 9 = .ok (.aload_n 0, 1) := by decide +kernel
theorem dX11_hears_10 : decode cX11_hears 10 = .ok (.iload_n 2, 1) := by decide +kernel
theorem dX11_hears_11 : decode cX11_hears 11 = .ok (.invokevirtual 81, 3) := by decide +kernel
theorem dX11_hears_14 : decode cX11_hears 14 = .ok (.ifCond .eq 7, 3) := by decide +kernel
theorem dX11_hears_17 : decode cX11_hears 17 = .ok (.iconst 1, 1) := by decide +kernel
theorem dX11_hears_18 : decode cX11_hears 18 = .ok (.goto 4, 3) := by decide +kernel
theorem dX11_hears_21 : decode cX11_hears 21 = .ok (.iconst 0, 1) := by decide +kernel
theorem dX11_hears_22 : decode cX11_hears 22 = .ok (.iconst 1, 1) := by decide +kernel
theorem dX11_hears_23 : decode cX11_hears 23 = .ok (.invokevirtual 71, 3) := by decide +kernel
theorem dX11_hears_26 : decode cX11_hears 26 = .ok (.ifCond .ne 34, 3) := by decide +kernel
theorem dX11_hears_29 : decode cX11_hears 29 = .ok (.aload_n 0, 1) := by decide +kernel
theorem dX11_hears_30 : decode cX11_hears 30 = .ok (.iload_n 1, 1) := by decide +kernel
theorem dX11_hears_31 : decode cX11_hears 31 = .ok (.iload_n 2, 1) := by decide +kernel
theorem dX11_hears_32 : decode cX11_hears 32 = .ok (.if_icmp .ne 7, 3) := by decide +kernel
theorem dX11_hears_35 : decode cX11_hears 35 = .ok (.iconst 1, 1) := by decide +kernel
theorem dX11_hears_36 : decode cX11_hears 36 = .ok (.goto 4, 3) := by decide +kernel
theorem dX11_hears_39 : decode cX11_hears 39 = .ok (.iconst 0, 1) := by decide +kernel
theorem dX11_hears_40 : decode cX11_hears 40 = .ok (.iconst 2, 1) := by decide +kernel
theorem dX11_hears_41 : decode cX11_hears 41 = .ok (.invokevirtual 29, 3) := by decide +kernel
theorem dX11_hears_44 : decode cX11_hears 44 = .ok (.ifCond .ne 16, 3) := by decide +kernel
theorem dX11_hears_47 : decode cX11_hears 47 = .ok (.aload_n 0, 1) := by decide +kernel
theorem dX11_hears_48 : decode cX11_hears 48 = .ok (.iload_n 1, 1) := by decide +kernel
theorem dX11_hears_49 : decode cX11_hears 49 = .ok (.iload_n 2, 1) := by decide +kernel
theorem dX11_hears_50 : decode cX11_hears 50 = .ok (.invokevirtual 60, 3) := by decide +kernel
theorem dX11_hears_53 : decode cX11_hears 53 = .ok (.ifCond .eq 7, 3) := by decide +kernel
theorem dX11_hears_56 : decode cX11_hears 56 = .ok (.iconst 1, 1) := by decide +kernel
theorem dX11_hears_57 : decode cX11_hears 57 = .ok (.goto 4, 3) := by decide +kernel
theorem dX11_hears_60 : decode cX11_hears 60 = .ok (.iconst 0, 1) := by decide +kernel
theorem dX11_hears_61 : decode cX11_hears 61 = .ok (.ireturn, 1) := by decide +kernel
theorem dX11_isSuspect_0 : decode cX11_isSuspect 0 = .ok (.iconst 0, 1) := by decide +kernel
theorem dX11_isSuspect_1 : decode cX11_isSuspect 1 = .ok (.istore_n 2, 1) := by decide +kernel
theorem dX11_isSuspect_2 : decode cX11_isSuspect 2 = .ok (.iconst 0, 1) := by decide +kernel
theorem dX11_isSuspect_3 : decode cX11_isSuspect 3 = .ok (.istore_n 3, 1) := by decide +kernel
theorem dX11_isSuspect_4 : decode cX11_isSuspect 4 = .ok (.iconst 0, 1) := by decide +kernel
theorem dX11_isSuspect_5 : decode cX11_isSuspect 5 = .ok (.istore 4, 2) := by decide +kernel
theorem dX11_isSuspect_7 : decode cX11_isSuspect 7 = .ok (.iload 4, 2) := by decide +kernel
theorem dX11_isSuspect_9 : decode cX11_isSuspect 9 = .ok (.aload_n 0, 1) := by decide +kernel
theorem dX11_isSuspect_10 : decode cX11_isSuspect 10 = .ok (.getfield 16, 3) := by decide +kernel
theorem dX11_isSuspect_13 : decode cX11_isSuspect 13 = .ok (.invokevirtual 33, 3) := by decide +kernel
theorem dX11_isSuspect_16 : decode cX11_isSuspect 16 = .ok (.if_icmp .ge 54, 3) := by decide +kernel
theorem dX11_isSuspect_19 : decode cX11_isSuspect 19 = .ok (.iload 4, 2) := by decide +kernel
theorem dX11_isSuspect_21 : decode cX11_isSuspect 21 = .ok (.iload_n 1, 1) := by decide +kernel
theorem dX11_isSuspect_22 : decode cX11_isSuspect 22 = .ok (.if_icmp .ne 6, 3) := by decide +kernel
theorem dX11_isSuspect_25 : decode cX11_isSuspect 25 = .ok (.goto 39, 3) := by decide +kernel
theorem dX11_isSuspect_28 : decode cX11_isSuspect 28 = .ok (.iload_n 2, 1) := by decide +kernel
theorem dX11_isSuspect_29 : decode cX11_isSuspect 29 = .ok (.aload_n 0, 1) := by decide +kernel
theorem dX11_isSuspect_30 : decode cX11_isSuspect 30 = .ok (.getfield 16, 3) := by decide +kernel
theorem dX11_isSuspect_33 : decode cX11_isSuspect 33 = .ok (.iload 4, 2) := by decide +kernel
theorem dX11_isSuspect_35 : decode cX11_isSuspect 35 = .ok (.invokevirtual 41, 3) := by decide +kernel
theorem dX11_isSuspect_38 : decode cX11_isSuspect 38 = .ok (.checkcast 45, 3) := by decide +kernel
theorem dX11_isSuspect_41 : decode cX11_isSuspect 41 = .ok (.getfield 178, 3) := by decide +kernel
theorem dX11_isSuspect_44 : decode cX11_isSuspect 44 = .ok (.iadd, 1) := by decide +kernel
theorem dX11_isSuspect_45 : decode cX11_isSuspect 45 = .ok (.istore_n 2, 1) := by decide +kernel
theorem dX11_isSuspect_46 : decode cX11_isSuspect 46 = .ok (.iload_n 3, 1) := by decide +kernel
theorem dX11_isSuspect_47 : decode cX11_isSuspect 47 = .ok (.aload_n 0, 1) := by decide +kernel
theorem dX11_isSuspect_48 : decode cX11_isSuspect 48 = .ok (.getfield 16, 3) := by decide +kernel
theorem dX11_isSuspect_51 : decode cX11_isSuspect 51 = .ok (.iload 4, 2) := by decide +kernel
theorem dX11_isSuspect_53 : decode cX11_isSuspect 53 = .ok (.invokevirtual 41, 3) := by decide +kernel
theorem dX11_isSuspect_56 : decode cX11_isSuspect 56 = .ok (.checkcast 45, 3) := by decide +kernel
theorem dX11_isSuspect_59 : decode cX11_isSuspect 59 = .ok (.getfield 181, 3) := by decide +kernel
theorem dX11_isSuspect_62 : decode cX11_isSuspect 62 = .ok (.iadd, 1) := by decide +kernel
theorem dX11_isSuspect_63 : decode cX11_isSuspect 63 = .ok (.istore_n 3, 1) := by decide +kernel
theorem dX11_isSuspect_64 : decode cX11_isSuspect 64 = .ok (.iinc 4 1, 3) := by decide +kernel
theorem dX11_isSuspect_67 : decode cX11_isSuspect 67 = .ok (.goto (-60), 3) := by decide +kernel
theorem dX11_isSuspect_70 : decode cX11_isSuspect 70 = .ok (.aload_n 0, 1) := by decide +kernel
theorem dX11_isSuspect_71 : decode cX11_isSuspect 71 = .ok (.getfield 16, 3) := by decide +kernel
theorem dX11_isSuspect_74 : decode cX11_isSuspect 74 = .ok (.iload_n 1, 1) := by decide +kernel
theorem dX11_isSuspect_75 : decode cX11_isSuspect 75 = .ok (.invokevirtual 41, 3) := by decide +kernel
theorem dX11_isSuspect_78 : decode cX11_isSuspect 78 = .ok (.checkcast 45, 3) := by decide +kernel
theorem dX11_isSuspect_81 : decode cX11_isSuspect 81 = .ok (.astore 4, 2) := by decide +kernel
theorem dX11_isSuspect_83 : decode cX11_isSuspect 83 = .ok (.aload 4, 2) := by decide +kernel
theorem dX11_isSuspect_85 : decode cX11_isSuspect 85 = .ok (.getfield 181, 3) := by decide +kernel
theorem dX11_isSuspect_88 : decode cX11_isSuspect 88 = .ok (.iconst 3, 1) := by decide +kernel
theorem dX11_isSuspect_89 : decode cX11_isSuspect 89 = .ok (.if_icmp .lt 33, 3) := by decide +kernel
theorem dX11_isSuspect_92 : decode cX11_isSuspect 92 = .ok (.ldc2_w 249, 3) := by decide +kernel
theorem dX11_isSuspect_95 : decode cX11_isSuspect 95 = .ok (.aload 4, 2) := by decide +kernel
theorem dX11_isSuspect_97 : decode cX11_isSuspect 97 = .ok (.getfield 178, 3) := by decide +kernel
theorem dX11_isSuspect_100 : decode cX11_isSuspect 100 = .ok (.i2l, 1) := by decide +kernel
theorem dX11_isSuspect_101 : decode cX11_isSuspect 101 = .ok (.lmul, 1) := by decide +kernel
theorem dX11_isSuspect_102 : decode cX11_isSuspect 102 = .ok (.iload_n 3, 1) := by decide +kernel
theorem dX11_isSuspect_103 : decode cX11_isSuspect 103 = .ok (.i2l, 1) := by decide +kernel
theorem dX11_isSuspect_104 : decode cX11_isSuspect 104 = .ok (.lmul, 1) := by decide +kernel
theorem dX11_isSuspect_105 : decode cX11_isSuspect 105 = .ok (.iload_n 2, 1) := by decide +kernel
theorem dX11_isSuspect_106 : decode cX11_isSuspect 106 = .ok (.i2l, 1) := by decide +kernel
theorem dX11_isSuspect_107 : decode cX11_isSuspect 107 = .ok (.aload 4, 2) := by decide +kernel
theorem dX11_isSuspect_109 : decode cX11_isSuspect 109 = .ok (.getfield 181, 3) := by decide +kernel
theorem dX11_isSuspect_112 : decode cX11_isSuspect 112 = .ok (.i2l, 1) := by decide +kernel
theorem dX11_isSuspect_113 : decode cX11_isSuspect 113 = .ok (.lmul, 1) := by decide +kernel
theorem dX11_isSuspect_114 : decode cX11_isSuspect 114 = .ok (.lcmp, 1) := by decide +kernel
theorem dX11_isSuspect_115 : decode cX11_isSuspect 115 = .ok (.ifCond .ge 7, 3) := by decide +kernel
theorem dX11_isSuspect_118 : decode cX11_isSuspect 118 = .ok (.iconst 1, 1) := by decide +kernel
theorem dX11_isSuspect_119 : decode cX11_isSuspect 119 = .ok (.goto 4, 3) := by decide +kernel
theorem dX11_isSuspect_122 : decode cX11_isSuspect 122 = .ok (.iconst 0, 1) := by decide +kernel
theorem dX11_isSuspect_123 : decode cX11_isSuspect 123 = .ok (.ireturn, 1) := by decide +kernel
theorem dX11_nodeTold_0 : decode cX11_nodeTold 0 = .ok (.aload_n 0, 1) := by decide +kernel
theorem dX11_nodeTold_1 : decode cX11_nodeTold 1 = .ok (.getfield 16, 3) := by decide +kernel
theorem dX11_nodeTold_4 : decode cX11_nodeTold 4 = .ok (.iload_n 1, 1) := by decide +kernel
theorem dX11_nodeTold_5 : decode cX11_nodeTold 5 = .ok (.invokevirtual 41, 3) := by decide +kernel
theorem dX11_nodeTold_8 : decode cX11_nodeTold 8 = .ok (.checkcast 45, 3) := by decide +kernel
theorem dX11_nodeTold_11 : decode cX11_nodeTold 11 = .ok (.astore_n 3, 1) := by decide +kernel
theorem dX11_nodeTold_12 : decode cX11_nodeTold 12 = .ok (.bipush 16, 2) := by decide +kernel
theorem dX11_nodeTold_14 : decode cX11_nodeTold 14 = .ok (.newarray .int, 2) := by decide +kernel
theorem dX11_nodeTold_16 : decode cX11_nodeTold 16 = .ok (.dup, 1) := by decide +kernel
theorem dX11_nodeTold_17 : decode cX11_nodeTold 17 = .ok (.iconst 0, 1) := by decide +kernel
theorem dX11_nodeTold_18 : decode cX11_nodeTold 18 = .ok (.aload_n 3, 1) := by decide +kernel
theorem dX11_nodeTold_19 : decode cX11_nodeTold 19 = .ok (.getfield 47, 3) := by decide +kernel
theorem dX11_nodeTold_22 : decode cX11_nodeTold 22 = .ok (.iastore, 1) := by decide +kernel
theorem dX11_nodeTold_23 : decode cX11_nodeTold 23 = .ok (.dup, 1) := by decide +kernel
theorem dX11_nodeTold_24 : decode cX11_nodeTold 24 = .ok (.iconst 1, 1) := by decide +kernel
theorem dX11_nodeTold_25 : decode cX11_nodeTold 25 = .ok (.aload_n 3, 1) := by decide +kernel
theorem dX11_nodeTold_26 : decode cX11_nodeTold 26 = .ok (.getfield 50, 3) := by decide +kernel
theorem dX11_nodeTold_29 : decode cX11_nodeTold 29 = .ok (.iastore, 1) := by decide +kernel
theorem dX11_nodeTold_30 : decode cX11_nodeTold 30 = .ok (.dup, 1) := by decide +kernel
theorem dX11_nodeTold_31 : decode cX11_nodeTold 31 = .ok (.iconst 2, 1) := by decide +kernel
theorem dX11_nodeTold_32 : decode cX11_nodeTold 32 = .ok (.aload_n 3, 1) := by decide +kernel
theorem dX11_nodeTold_33 : decode cX11_nodeTold 33 = .ok (.getfield 57, 3) := by decide +kernel
theorem dX11_nodeTold_36 : decode cX11_nodeTold 36 = .ok (.iastore, 1) := by decide +kernel
theorem dX11_nodeTold_37 : decode cX11_nodeTold 37 = .ok (.dup, 1) := by decide +kernel
theorem dX11_nodeTold_38 : decode cX11_nodeTold 38 = .ok (.iconst 3, 1) := by decide +kernel
theorem dX11_nodeTold_39 : decode cX11_nodeTold 39 = .ok (.aload_n 3, 1) := by decide +kernel
theorem dX11_nodeTold_40 : decode cX11_nodeTold 40 = .ok (.getfield 98, 3) := by decide +kernel
theorem dX11_nodeTold_43 : decode cX11_nodeTold 43 = .ok (.invokestatic 67, 3) := by decide +kernel
theorem dX11_nodeTold_46 : decode cX11_nodeTold 46 = .ok (.iastore, 1) := by decide +kernel
theorem dX11_nodeTold_47 : decode cX11_nodeTold 47 = .ok (.dup, 1) := by decide +kernel
theorem dX11_nodeTold_48 : decode cX11_nodeTold 48 = .ok (.iconst 4, 1) := by decide +kernel
theorem dX11_nodeTold_49 : decode cX11_nodeTold 49 = .ok (.aload_n 3, 1) := by decide +kernel
theorem dX11_nodeTold_50 : decode cX11_nodeTold 50 = .ok (.getfield 102, 3) := by decide +kernel
theorem dX11_nodeTold_53 : decode cX11_nodeTold 53 = .ok (.invokevirtual 33, 3) := by decide +kernel
theorem dX11_nodeTold_56 : decode cX11_nodeTold 56 = .ok (.iastore, 1) := by decide +kernel
theorem dX11_nodeTold_57 : decode cX11_nodeTold 57 = .ok (.dup, 1) := by decide +kernel
theorem dX11_nodeTold_58 : decode cX11_nodeTold 58 = .ok (.iconst 5, 1) := by decide +kernel
theorem dX11_nodeTold_59 : decode cX11_nodeTold 59 = .ok (.aload_n 3, 1) := by decide +kernel
theorem dX11_nodeTold_60 : decode cX11_nodeTold 60 = .ok (.getfield 123, 3) := by decide +kernel
theorem dX11_nodeTold_63 : decode cX11_nodeTold 63 = .ok (.iastore, 1) := by decide +kernel
theorem dX11_nodeTold_64 : decode cX11_nodeTold 64 = .ok (.dup, 1) := by decide +kernel
theorem dX11_nodeTold_65 : decode cX11_nodeTold 65 = .ok (.bipush 6, 2) := by decide +kernel
theorem dX11_nodeTold_67 : decode cX11_nodeTold 67 = .ok (.aload_n 3, 1) := by decide +kernel
theorem dX11_nodeTold_68 : decode cX11_nodeTold 68 = .ok (.getfield 117, 3) := by decide +kernel
theorem dX11_nodeTold_71 : decode cX11_nodeTold 71 = .ok (.iastore, 1) := by decide +kernel
theorem dX11_nodeTold_72 : decode cX11_nodeTold 72 = .ok (.dup, 1) := by decide +kernel
theorem dX11_nodeTold_73 : decode cX11_nodeTold 73 = .ok (.bipush 7, 2) := by decide +kernel
theorem dX11_nodeTold_75 : decode cX11_nodeTold 75 = .ok (.aload_n 3, 1) := by decide +kernel
theorem dX11_nodeTold_76 : decode cX11_nodeTold 76 = .ok (.getfield 138, 3) := by decide +kernel
theorem dX11_nodeTold_79 : decode cX11_nodeTold 79 = .ok (.iastore, 1) := by decide +kernel
theorem dX11_nodeTold_80 : decode cX11_nodeTold 80 = .ok (.dup, 1) := by decide +kernel
theorem dX11_nodeTold_81 : decode cX11_nodeTold 81 = .ok (.bipush 8, 2) := by decide +kernel
theorem dX11_nodeTold_83 : decode cX11_nodeTold 83 = .ok (.aload_n 3, 1) := by decide +kernel
theorem dX11_nodeTold_84 : decode cX11_nodeTold 84 = .ok (.getfield 135, 3) := by decide +kernel
theorem dX11_nodeTold_87 : decode cX11_nodeTold 87 = .ok (.iastore, 1) := by decide +kernel
theorem dX11_nodeTold_88 : decode cX11_nodeTold 88 = .ok (.dup, 1) := by decide +kernel
theorem dX11_nodeTold_89 : decode cX11_nodeTold 89 = .ok (.bipush 9, 2) := by decide +kernel
theorem dX11_nodeTold_91 : decode cX11_nodeTold 91 = .ok (.aload_n 3, 1) := by decide +kernel
theorem dX11_nodeTold_92 : decode cX11_nodeTold 92 = .ok (.getfield 196, 3) := by decide +kernel
theorem dX11_nodeTold_95 : decode cX11_nodeTold 95 = .ok (.iastore, 1) := by decide +kernel
theorem dX11_nodeTold_96 : decode cX11_nodeTold 96 = .ok (.dup, 1) := by decide +kernel
theorem dX11_nodeTold_97 : decode cX11_nodeTold 97 = .ok (.bipush 10, 2) := by decide +kernel
theorem dX11_nodeTold_99 : decode cX11_nodeTold 99 = .ok (.aload_n 3, 1) := by decide +kernel
theorem dX11_nodeTold_100 : decode cX11_nodeTold 100 = .ok (.getfield 144, 3) := by decide +kernel
theorem dX11_nodeTold_103 : decode cX11_nodeTold 103 = .ok (.iastore, 1) := by decide +kernel
theorem dX11_nodeTold_104 : decode cX11_nodeTold 104 = .ok (.dup, 1) := by decide +kernel
theorem dX11_nodeTold_105 : decode cX11_nodeTold 105 = .ok (.bipush 11, 2) := by decide +kernel
theorem dX11_nodeTold_107 : decode cX11_nodeTold 107 = .ok (.aload_n 3, 1) := by decide +kernel
theorem dX11_nodeTold_108 : decode cX11_nodeTold 108 = .ok (.getfield 178, 3) := by decide +kernel
theorem dX11_nodeTold_111 : decode cX11_nodeTold 111 = .ok (.iastore, 1) := by decide +kernel
theorem dX11_nodeTold_112 : decode cX11_nodeTold 112 = .ok (.dup, 1) := by decide +kernel
theorem dX11_nodeTold_113 : decode cX11_nodeTold 113 = .ok (.bipush 12, 2) := by decide +kernel
theorem dX11_nodeTold_115 : decode cX11_nodeTold 115 = .ok (.aload_n 3, 1) := by decide +kernel
theorem dX11_nodeTold_116 : decode cX11_nodeTold 116 = .ok (.getfield 181, 3) := by decide +kernel
theorem dX11_nodeTold_119 : decode cX11_nodeTold 119 = .ok (.iastore, 1) := by decide +kernel
theorem dX11_nodeTold_120 : decode cX11_nodeTold 120 = .ok (.dup, 1) := by decide +kernel
theorem dX11_nodeTold_121 : decode cX11_nodeTold 121 = .ok (.bipush 13, 2) := by decide +kernel
theorem dX11_nodeTold_123 : decode cX11_nodeTold 123 = .ok (.aload_n 0, 1) := by decide +kernel
theorem dX11_nodeTold_124 : decode cX11_nodeTold 124 = .ok (.iload_n 1, 1) := by decide +kernel
theorem dX11_nodeTold_125 : decode cX11_nodeTold 125 = .ok (.invokevirtual 251, 3) := by decide +kernel
theorem dX11_nodeTold_128 : decode cX11_nodeTold 128 = .ok (.invokestatic 67, 3) := by decide +kernel
theorem dX11_nodeTold_131 : decode cX11_nodeTold 131 = .ok (.iastore, 1) := by decide +kernel
theorem dX11_nodeTold_132 : decode cX11_nodeTold 132 = .ok (.dup, 1) := by decide +kernel
theorem dX11_nodeTold_133 : decode cX11_nodeTold 133 = .ok (.bipush 14, 2) := by decide +kernel
theorem dX11_nodeTold_135 : decode cX11_nodeTold 135 = .ok (.aload_n 0, 1) := by decide +kernel
theorem dX11_nodeTold_136 : decode cX11_nodeTold 136 = .ok (.iload_n 1, 1) := by decide +kernel
theorem dX11_nodeTold_137 : decode cX11_nodeTold 137 = .ok (.invokevirtual 89, 3) := by decide +kernel
theorem dX11_nodeTold_140 : decode cX11_nodeTold 140 = .ok (.iastore, 1) := by decide +kernel
theorem dX11_nodeTold_141 : decode cX11_nodeTold 141 = .ok (.dup, 1) := by decide +kernel
theorem dX11_nodeTold_142 : decode cX11_nodeTold 142 = .ok (.bipush 15, 2) := by decide +kernel
theorem dX11_nodeTold_144 : decode cX11_nodeTold 144 = .ok (.aload_n 3, 1) := by decide +kernel
theorem dX11_nodeTold_145 : decode cX11_nodeTold 145 = .ok (.getfield 105, 3) := by decide +kernel
theorem dX11_nodeTold_148 : decode cX11_nodeTold 148 = .ok (.iastore, 1) := by decide +kernel
theorem dX11_nodeTold_149 : decode cX11_nodeTold 149 = .ok (.astore 4, 2) := by decide +kernel
theorem dX11_nodeTold_151 : decode cX11_nodeTold 151 = .ok (.aload 4, 2) := by decide +kernel
theorem dX11_nodeTold_153 : decode cX11_nodeTold 153 = .ok (.iload_n 2, 1) := by decide +kernel
theorem dX11_nodeTold_154 : decode cX11_nodeTold 154 = .ok (.iaload, 1) := by decide +kernel
theorem dX11_nodeTold_155 : decode cX11_nodeTold 155 = .ok (.ireturn, 1) := by decide +kernel
theorem dX11_ofNode_0 : decode cX11_ofNode 0 = .ok (.aload_n 0, 1) := by decide +kernel
theorem dX11_ofNode_1 : decode cX11_ofNode 1 = .ok (.aload_n 0, 1) := by decide +kernel
theorem dX11_ofNode_2 : decode cX11_ofNode 2 = .ok (.iload_n 1, 1) := by decide +kernel
theorem dX11_ofNode_3 : decode cX11_ofNode 3 = .ok (.invokevirtual 81, 3) := by decide +kernel
theorem dX11_ofNode_6 : decode cX11_ofNode 6 = .ok (.iconst 1, 1) := by decide +kernel
theorem dX11_ofNode_7 : decode cX11_ofNode 7 = .ok (.invokevirtual 71, 3) := by decide +kernel
theorem dX11_ofNode_10 : decode cX11_ofNode 10 = .ok (.ifCond .ne 26, 3) := by decide +kernel
theorem dX11_ofNode_13 : decode cX11_ofNode 13 = .ok (.aload_n 0, 1) := by decide +kernel
theorem dX11_ofNode_14 : decode cX11_ofNode 14 = .ok (.iload_n 2, 1) := by decide +kernel
theorem dX11_ofNode_15 : decode cX11_ofNode 15 = .ok (.iconst 0, 1) := by decide +kernel
theorem dX11_ofNode_16 : decode cX11_ofNode 16 = .ok (.bipush 15, 2) := by decide +kernel
theorem dX11_ofNode_18 : decode cX11_ofNode 18 = .ok (.invokestatic 37, 3) := by decide +kernel
theorem dX11_ofNode_21 : decode cX11_ofNode 21 = .ok (.ifCond .ne 7, 3) := by decide +kernel
theorem dX11_ofNode_24 : decode cX11_ofNode 24 = .ok (.iconst 1, 1) := by decide +kernel
theorem dX11_ofNode_25 : decode cX11_ofNode 25 = .ok (.goto 4, 3) := by decide +kernel
theorem dX11_ofNode_28 : decode cX11_ofNode 28 = .ok (.iconst 0, 1) := by decide +kernel
theorem dX11_ofNode_29 : decode cX11_ofNode 29 = .ok (.iconst 2, 1) := by decide +kernel
theorem dX11_ofNode_30 : decode cX11_ofNode 30 = .ok (.invokevirtual 29, 3) := by decide +kernel
theorem dX11_ofNode_33 : decode cX11_ofNode 33 = .ok (.ifCond .eq 7, 3) := by decide +kernel
theorem dX11_ofNode_36 : decode cX11_ofNode 36 = .ok (.iconst 0, 1) := by decide +kernel
theorem dX11_ofNode_37 : decode cX11_ofNode 37 = .ok (.goto 9, 3) := by decide +kernel
theorem dX11_ofNode_40 : decode cX11_ofNode 40 = .ok (.aload_n 0, 1) := by decide +kernel
theorem dX11_ofNode_41 : decode cX11_ofNode 41 = .ok (.iload_n 1, 1) := by decide +kernel
theorem dX11_ofNode_42 : decode cX11_ofNode 42 = .ok (.iload_n 2, 1) := by decide +kernel
theorem dX11_ofNode_43 : decode cX11_ofNode 43 = .ok (.invokevirtual 254, 3) := by decide +kernel
theorem dX11_ofNode_46 : decode cX11_ofNode 46 = .ok (.ireturn, 1) := by decide +kernel
theorem dX11_queued_0 : decode cX11_queued 0 = .ok (.iload_n 2, 1) := by decide +kernel
theorem dX11_queued_1 : decode cX11_queued 1 = .ok (.aload_n 0, 1) := by decide +kernel
theorem dX11_queued_2 : decode cX11_queued 2 = .ok (.getfield 16, 3) := by decide +kernel
theorem dX11_queued_5 : decode cX11_queued 5 = .ok (.iload_n 1, 1) := by decide +kernel
theorem dX11_queued_6 : decode cX11_queued 6 = .ok (.invokevirtual 41, 3) := by decide +kernel
theorem dX11_queued_9 : decode cX11_queued 9 = .ok (.checkcast 45, 3) := by decide +kernel
theorem dX11_queued_12 : decode cX11_queued 12 = .ok (.getfield 102, 3) := by decide +kernel
theorem dX11_queued_15 : decode cX11_queued 15 = .ok (.invokevirtual 33, 3) := by decide +kernel
theorem dX11_queued_18 : decode cX11_queued 18 = .ok (.if_icmp .ge 29, 3) := by decide +kernel
theorem dX11_queued_21 : decode cX11_queued 21 = .ok (.aload_n 0, 1) := by decide +kernel
theorem dX11_queued_22 : decode cX11_queued 22 = .ok (.getfield 16, 3) := by decide +kernel
theorem dX11_queued_25 : decode cX11_queued 25 = .ok (.iload_n 1, 1) := by decide +kernel
theorem dX11_queued_26 : decode cX11_queued 26 = .ok (.invokevirtual 41, 3) := by decide +kernel
theorem dX11_queued_29 : decode cX11_queued 29 = .ok (.checkcast 45, 3) := by decide +kernel
theorem dX11_queued_32 : decode cX11_queued 32 = .ok (.getfield 102, 3) := by decide +kernel
theorem dX11_queued_35 : decode cX11_queued 35 = .ok (.iload_n 2, 1) := by decide +kernel
theorem dX11_queued_36 : decode cX11_queued 36 = .ok (.invokevirtual 41, 3) := by decide +kernel
theorem dX11_queued_39 : decode cX11_queued 39 = .ok (.checkcast 130, 3) := by decide +kernel
theorem dX11_queued_42 : decode cX11_queued 42 = .ok (.iload_n 3, 1) := by decide +kernel
theorem dX11_queued_43 : decode cX11_queued 43 = .ok (.iaload, 1) := by decide +kernel
theorem dX11_queued_44 : decode cX11_queued 44 = .ok (.goto 4, 3) := by decide +kernel
theorem dX11_queued_47 : decode cX11_queued 47 = .ok (.iconst (-1), 1) := by decide +kernel
theorem dX11_queued_48 : decode cX11_queued 48 = .ok (.ireturn, 1) := by decide +kernel
theorem dX11_inQueue_0 : decode cX11_inQueue 0 = .ok (.aload_n 0, 1) := by decide +kernel
theorem dX11_inQueue_1 : decode cX11_inQueue 1 = .ok (.aload_n 0, 1) := by decide +kernel
theorem dX11_inQueue_2 : decode cX11_inQueue 2 = .ok (.iload_n 1, 1) := by decide +kernel
theorem dX11_inQueue_3 : decode cX11_inQueue 3 = .ok (.invokevirtual 81, 3) := by decide +kernel
theorem dX11_inQueue_6 : decode cX11_inQueue 6 = .ok (.iconst 1, 1) := by decide +kernel
theorem dX11_inQueue_7 : decode cX11_inQueue 7 = .ok (.invokevirtual 71, 3) := by decide +kernel
theorem dX11_inQueue_10 : decode cX11_inQueue 10 = .ok (.ifCond .ne 29, 3) := by decide +kernel
theorem dX11_inQueue_13 : decode cX11_inQueue 13 = .ok (.aload_n 0, 1) := by decide +kernel
theorem dX11_inQueue_14 : decode cX11_inQueue 14 = .ok (.iload_n 2, 1) := by decide +kernel
theorem dX11_inQueue_15 : decode cX11_inQueue 15 = .ok (.ifCond .lt 12, 3) := by decide +kernel
theorem dX11_inQueue_18 : decode cX11_inQueue 18 = .ok (.iload_n 3, 1) := by decide +kernel
theorem dX11_inQueue_19 : decode cX11_inQueue 19 = .ok (.iconst 0, 1) := by decide +kernel
theorem dX11_inQueue_20 : decode cX11_inQueue 20 = .ok (.iconst 4, 1) := by decide +kernel
theorem dX11_inQueue_21 : decode cX11_inQueue 21 = .ok (.invokestatic 37, 3) := by decide +kernel
theorem dX11_inQueue_24 : decode cX11_inQueue 24 = .ok (.ifCond .ne 7, 3) := by decide +kernel
theorem dX11_inQueue_27 : decode cX11_inQueue 27 = .ok (.iconst 1, 1) := by decide +kernel
theorem dX11_inQueue_28 : decode cX11_inQueue 28 = .ok (.goto 4, 3) := by decide +kernel
theorem dX11_inQueue_31 : decode cX11_inQueue 31 = .ok (.iconst 0, 1) := by decide +kernel
theorem dX11_inQueue_32 : decode cX11_inQueue 32 = .ok (.iconst 2, 1) := by decide +kernel
theorem dX11_inQueue_33 : decode cX11_inQueue 33 = .ok (.invokevirtual 29, 3) := by decide +kernel
theorem dX11_inQueue_36 : decode cX11_inQueue 36 = .ok (.ifCond .eq 7, 3) := by decide +kernel
theorem dX11_inQueue_39 : decode cX11_inQueue 39 = .ok (.iconst 0, 1) := by decide +kernel
theorem dX11_inQueue_40 : decode cX11_inQueue 40 = .ok (.goto 10, 3) := by decide +kernel
theorem dX11_inQueue_43 : decode cX11_inQueue 43 = .ok (.aload_n 0, 1) := by decide +kernel
theorem dX11_inQueue_44 : decode cX11_inQueue 44 = .ok (.iload_n 1, 1) := by decide +kernel
theorem dX11_inQueue_45 : decode cX11_inQueue 45 = .ok (.iload_n 2, 1) := by decide +kernel
theorem dX11_inQueue_46 : decode cX11_inQueue 46 = .ok (.iload_n 3, 1) := by decide +kernel
theorem dX11_inQueue_47 : decode cX11_inQueue 47 = .ok (.invokevirtual 257, 3) := by decide +kernel
theorem dX11_inQueue_50 : decode cX11_inQueue 50 = .ok (.ireturn, 1) := by decide +kernel
theorem dX11_way_0 : decode cX11_way 0 = .ok (.iconst 1, 1) := by decide +kernel
theorem dX11_way_1 : decode cX11_way 1 = .ok (.iload_n 1, 1) := by decide +kernel
theorem dX11_way_2 : decode cX11_way 2 = .ok (.ishl, 1) := by decide +kernel
theorem dX11_way_3 : decode cX11_way 3 = .ok (.istore_n 3, 1) := by decide +kernel
theorem dX11_way_4 : decode cX11_way 4 = .ok (.iconst 1, 1) := by decide +kernel
theorem dX11_way_5 : decode cX11_way 5 = .ok (.istore 4, 2) := by decide +kernel
theorem dX11_way_7 : decode cX11_way 7 = .ok (.iload_n 1, 1) := by decide +kernel
theorem dX11_way_8 : decode cX11_way 8 = .ok (.istore 5, 2) := by decide +kernel
theorem dX11_way_10 : decode cX11_way 10 = .ok (.iload 5, 2) := by decide +kernel
theorem dX11_way_12 : decode cX11_way 12 = .ok (.iload_n 2, 1) := by decide +kernel
theorem dX11_way_13 : decode cX11_way 13 = .ok (.if_icmp .eq 55, 3) := by decide +kernel
theorem dX11_way_16 : decode cX11_way 16 = .ok (.aload_n 0, 1) := by decide +kernel
theorem dX11_way_17 : decode cX11_way 17 = .ok (.getfield 16, 3) := by decide +kernel
theorem dX11_way_20 : decode cX11_way 20 = .ok (.iload 5, 2) := by decide +kernel
theorem dX11_way_22 : decode cX11_way 22 = .ok (.invokevirtual 41, 3) := by decide +kernel
theorem dX11_way_25 : decode cX11_way 25 = .ok (.checkcast 45, 3) := by decide +kernel
theorem dX11_way_28 : decode cX11_way 28 = .ok (.getfield 126, 3) := by decide +kernel
theorem dX11_way_31 : decode cX11_way 31 = .ok (.iload_n 2, 1) := by decide +kernel
theorem dX11_way_32 : decode cX11_way 32 = .ok (.iaload, 1) := by decide +kernel
theorem dX11_way_33 : decode cX11_way 33 = .ok (.istore 5, 2) := by decide +kernel
theorem dX11_way_35 : decode cX11_way 35 = .ok (.iload 5, 2) := by decide +kernel
theorem dX11_way_37 : decode cX11_way 37 = .ok (.iconst (-1), 1) := by decide +kernel
theorem dX11_way_38 : decode cX11_way 38 = .ok (.if_icmp .ne 5, 3) := by decide +kernel
theorem dX11_way_41 : decode cX11_way 41 = .ok (.iconst (-1), 1) := by decide +kernel
theorem dX11_way_42 : decode cX11_way 42 = .ok (.ireturn, 1) := by decide +kernel
theorem dX11_way_43 : decode cX11_way 43 = .ok (.iload_n 3, 1) := by decide +kernel
theorem dX11_way_44 : decode cX11_way 44 = .ok (.iload 5, 2) := by decide +kernel
theorem dX11_way_46 : decode cX11_way 46 = .ok (.invokestatic 147, 3) := by decide +kernel
theorem dX11_way_49 : decode cX11_way 49 = .ok (.ifCond .eq 6, 3) := by decide +kernel
theorem dX11_way_52 : decode cX11_way 52 = .ok (.bipush (-2), 2) := by decide +kernel
theorem dX11_way_54 : decode cX11_way 54 = .ok (.ireturn, 1) := by decide +kernel
theorem dX11_way_55 : decode cX11_way 55 = .ok (.iload_n 3, 1) := by decide +kernel
theorem dX11_way_56 : decode cX11_way 56 = .ok (.iconst 1, 1) := by decide +kernel
theorem dX11_way_57 : decode cX11_way 57 = .ok (.iload 5, 2) := by decide +kernel
theorem dX11_way_59 : decode cX11_way 59 = .ok (.ishl, 1) := by decide +kernel
theorem dX11_way_60 : decode cX11_way 60 = .ok (.ior, 1) := by decide +kernel
theorem dX11_way_61 : decode cX11_way 61 = .ok (.istore_n 3, 1) := by decide +kernel
theorem dX11_way_62 : decode cX11_way 62 = .ok (.iinc 4 1, 3) := by decide +kernel
theorem dX11_way_65 : decode cX11_way 65 = .ok (.goto (-55), 3) := by decide +kernel
theorem dX11_way_68 : decode cX11_way 68 = .ok (.iload 4, 2) := by decide +kernel
theorem dX11_way_70 : decode cX11_way 70 = .ok (.ireturn, 1) := by decide +kernel
theorem dX11_routeTold_0 : decode cX11_routeTold 0 = .ok (.aload_n 0, 1) := by decide +kernel
theorem dX11_routeTold_1 : decode cX11_routeTold 1 = .ok (.iload_n 1, 1) := by decide +kernel
theorem dX11_routeTold_2 : decode cX11_routeTold 2 = .ok (.iload_n 2, 1) := by decide +kernel
theorem dX11_routeTold_3 : decode cX11_routeTold 3 = .ok (.invokevirtual 261, 3) := by decide +kernel
theorem dX11_routeTold_6 : decode cX11_routeTold 6 = .ok (.istore 4, 2) := by decide +kernel
theorem dX11_routeTold_8 : decode cX11_routeTold 8 = .ok (.iconst 4, 1) := by decide +kernel
theorem dX11_routeTold_9 : decode cX11_routeTold 9 = .ok (.newarray .int, 2) := by decide +kernel
theorem dX11_routeTold_11 : decode cX11_routeTold 11 = .ok (.dup, 1) := by decide +kernel
theorem dX11_routeTold_12 : decode cX11_routeTold 12 = .ok (.iconst 0, 1) := by decide +kernel
theorem dX11_routeTold_13 : decode cX11_routeTold 13 = .ok (.aload_n 0, 1) := by decide +kernel
theorem dX11_routeTold_14 : decode cX11_routeTold 14 = .ok (.getfield 16, 3) := by decide +kernel
theorem dX11_routeTold_17 : decode cX11_routeTold 17 = .ok (.iload_n 1, 1) := by decide +kernel
theorem dX11_routeTold_18 : decode cX11_routeTold 18 = .ok (.invokevirtual 41, 3) := by decide +kernel
theorem dX11_routeTold_21 : decode cX11_routeTold 21 = .ok (.checkcast 45, 3) := by decide +kernel
theorem dX11_routeTold_24 : decode cX11_routeTold 24 = .ok (.getfield 209, 3) := by decide +kernel
theorem dX11_routeTold_27 : decode cX11_routeTold 27 = .ok (.iload_n 2, 1) := by decide +kernel
theorem dX11_routeTold_28 : decode cX11_routeTold 28 = .ok (.iaload, 1) := by decide +kernel
theorem dX11_routeTold_29 : decode cX11_routeTold 29 = .ok (.iastore, 1) := by decide +kernel
theorem dX11_routeTold_30 : decode cX11_routeTold 30 = .ok (.dup, 1) := by decide +kernel
theorem dX11_routeTold_31 : decode cX11_routeTold 31 = .ok (.iconst 1, 1) := by decide +kernel
theorem dX11_routeTold_32 : decode cX11_routeTold 32 = .ok (.aload_n 0, 1) := by decide +kernel
theorem dX11_routeTold_33 : decode cX11_routeTold 33 = .ok (.getfield 16, 3) := by decide +kernel
theorem dX11_routeTold_36 : decode cX11_routeTold 36 = .ok (.iload_n 1, 1) := by decide +kernel
theorem dX11_routeTold_37 : decode cX11_routeTold 37 = .ok (.invokevirtual 41, 3) := by decide +kernel
theorem dX11_routeTold_40 : decode cX11_routeTold 40 = .ok (.checkcast 45, 3) := by decide +kernel
theorem dX11_routeTold_43 : decode cX11_routeTold 43 = .ok (.getfield 126, 3) := by decide +kernel
theorem dX11_routeTold_46 : decode cX11_routeTold 46 = .ok (.iload_n 2, 1) := by decide +kernel
theorem dX11_routeTold_47 : decode cX11_routeTold 47 = .ok (.iaload, 1) := by decide +kernel
theorem dX11_routeTold_48 : decode cX11_routeTold 48 = .ok (.iastore, 1) := by decide +kernel
theorem dX11_routeTold_49 : decode cX11_routeTold 49 = .ok (.dup, 1) := by decide +kernel
theorem dX11_routeTold_50 : decode cX11_routeTold 50 = .ok (.iconst 2, 1) := by decide +kernel
theorem dX11_routeTold_51 : decode cX11_routeTold 51 = .ok (.iconst (-1), 1) := by decide +kernel
theorem dX11_routeTold_52 : decode cX11_routeTold 52 = .ok (.iload 4, 2) := by decide +kernel
theorem dX11_routeTold_54 : decode cX11_routeTold 54 = .ok (.invokestatic 264, 3) := by decide +kernel
theorem dX11_routeTold_57 : decode cX11_routeTold 57 = .ok (.iastore, 1) := by decide +kernel
theorem dX11_routeTold_58 : decode cX11_routeTold 58 = .ok (.dup, 1) := by decide +kernel
theorem dX11_routeTold_59 : decode cX11_routeTold 59 = .ok (.iconst 3, 1) := by decide +kernel
theorem dX11_routeTold_60 : decode cX11_routeTold 60 = .ok (.iload 4, 2) := by decide +kernel
theorem dX11_routeTold_62 : decode cX11_routeTold 62 = .ok (.bipush (-2), 2) := by decide +kernel
theorem dX11_routeTold_64 : decode cX11_routeTold 64 = .ok (.if_icmp .ne 7, 3) := by decide +kernel
theorem dX11_routeTold_67 : decode cX11_routeTold 67 = .ok (.iconst 1, 1) := by decide +kernel
theorem dX11_routeTold_68 : decode cX11_routeTold 68 = .ok (.goto 4, 3) := by decide +kernel
theorem dX11_routeTold_71 : decode cX11_routeTold 71 = .ok (.iconst 0, 1) := by decide +kernel
theorem dX11_routeTold_72 : decode cX11_routeTold 72 = .ok (.invokestatic 67, 3) := by decide +kernel
theorem dX11_routeTold_75 : decode cX11_routeTold 75 = .ok (.iastore, 1) := by decide +kernel
theorem dX11_routeTold_76 : decode cX11_routeTold 76 = .ok (.astore 5, 2) := by decide +kernel
theorem dX11_routeTold_78 : decode cX11_routeTold 78 = .ok (.aload 5, 2) := by decide +kernel
theorem dX11_routeTold_80 : decode cX11_routeTold 80 = .ok (.iload_n 3, 1) := by decide +kernel
theorem dX11_routeTold_81 : decode cX11_routeTold 81 = .ok (.iaload, 1) := by decide +kernel
theorem dX11_routeTold_82 : decode cX11_routeTold 82 = .ok (.ireturn, 1) := by decide +kernel
theorem dX11_route_0 : decode cX11_route 0 = .ok (.aload_n 0, 1) := by decide +kernel
theorem dX11_route_1 : decode cX11_route 1 = .ok (.aload_n 0, 1) := by decide +kernel
theorem dX11_route_2 : decode cX11_route 2 = .ok (.iload_n 1, 1) := by decide +kernel
theorem dX11_route_3 : decode cX11_route 3 = .ok (.invokevirtual 81, 3) := by decide +kernel
theorem dX11_route_6 : decode cX11_route 6 = .ok (.ifCond .ne 11, 3) := by decide +kernel
theorem dX11_route_9 : decode cX11_route 9 = .ok (.aload_n 0, 1) := by decide +kernel
theorem dX11_route_10 : decode cX11_route 10 = .ok (.iload_n 2, 1) := by decide +kernel
theorem dX11_route_11 : decode cX11_route 11 = .ok (.invokevirtual 81, 3) := by decide +kernel
theorem dX11_route_14 : decode cX11_route 14 = .ok (.ifCond .eq 7, 3) := by decide +kernel
theorem dX11_route_17 : decode cX11_route 17 = .ok (.iconst 1, 1) := by decide +kernel
theorem dX11_route_18 : decode cX11_route 18 = .ok (.goto 4, 3) := by decide +kernel
theorem dX11_route_21 : decode cX11_route 21 = .ok (.iconst 0, 1) := by decide +kernel
theorem dX11_route_22 : decode cX11_route 22 = .ok (.iconst 1, 1) := by decide +kernel
theorem dX11_route_23 : decode cX11_route 23 = .ok (.invokevirtual 71, 3) := by decide +kernel
theorem dX11_route_26 : decode cX11_route 26 = .ok (.ifCond .ne 30, 3) := by decide +kernel
theorem dX11_route_29 : decode cX11_route 29 = .ok (.aload_n 0, 1) := by decide +kernel
theorem dX11_route_30 : decode cX11_route 30 = .ok (.iload_n 1, 1) := by decide +kernel
theorem dX11_route_31 : decode cX11_route 31 = .ok (.iload_n 2, 1) := by decide +kernel
theorem dX11_route_32 : decode cX11_route 32 = .ok (.if_icmp .eq 12, 3) := by decide +kernel
theorem dX11_route_35 : decode cX11_route 35 = .ok (.iload_n 3, 1) := by decide +kernel
theorem dX11_route_36 : decode cX11_route 36 = .ok (.iconst 0, 1) := by decide +kernel
theorem dX11_route_37 : decode cX11_route 37 = .ok (.iconst 3, 1) := by decide +kernel
theorem dX11_route_38 : decode cX11_route 38 = .ok (.invokestatic 37, 3) := by decide +kernel
theorem dX11_route_41 : decode cX11_route 41 = .ok (.ifCond .ne 7, 3) := by decide +kernel
theorem dX11_route_44 : decode cX11_route 44 = .ok (.iconst 1, 1) := by decide +kernel
theorem dX11_route_45 : decode cX11_route 45 = .ok (.goto 4, 3) := by decide +kernel
theorem dX11_route_48 : decode cX11_route 48 = .ok (.iconst 0, 1) := by decide +kernel
theorem dX11_route_49 : decode cX11_route 49 = .ok (.iconst 2, 1) := by decide +kernel
theorem dX11_route_50 : decode cX11_route 50 = .ok (.invokevirtual 29, 3) := by decide +kernel
theorem dX11_route_53 : decode cX11_route 53 = .ok (.ifCond .eq 7, 3) := by decide +kernel
theorem dX11_route_56 : decode cX11_route 56 = .ok (.iconst 0, 1) := by decide +kernel
theorem dX11_route_57 : decode cX11_route 57 = .ok (.goto 10, 3) := by decide +kernel
theorem dX11_route_60 : decode cX11_route 60 = .ok (.aload_n 0, 1) := by decide +kernel
theorem dX11_route_61 : decode cX11_route 61 = .ok (.iload_n 1, 1) := by decide +kernel
theorem dX11_route_62 : decode cX11_route 62 = .ok (.iload_n 2, 1) := by decide +kernel
theorem dX11_route_63 : decode cX11_route 63 = .ok (.iload_n 3, 1) := by decide +kernel
theorem dX11_route_64 : decode cX11_route 64 = .ok (.invokevirtual 269, 3) := by decide +kernel
theorem dX11_route_67 : decode cX11_route 67 = .ok (.ireturn, 1) := by decide +kernel
theorem dX11_circles_0 : decode cX11_circles 0 = .ok (.iconst 0, 1) := by decide +kernel
theorem dX11_circles_1 : decode cX11_circles 1 = .ok (.istore_n 1, 1) := by decide +kernel
theorem dX11_circles_2 : decode cX11_circles 2 = .ok (.iconst 0, 1) := by decide +kernel
theorem dX11_circles_3 : decode cX11_circles 3 = .ok (.istore_n 2, 1) := by decide +kernel
theorem dX11_circles_4 : decode cX11_circles 4 = .ok (.iload_n 2, 1) := by decide +kernel
theorem dX11_circles_5 : decode cX11_circles 5 = .ok (.aload_n 0, 1) := by decide +kernel
theorem dX11_circles_6 : decode cX11_circles 6 = .ok (.getfield 16, 3) := by decide +kernel
theorem dX11_circles_9 : decode cX11_circles 9 = .ok (.invokevirtual 33, 3) := by decide +kernel
theorem dX11_circles_12 : decode cX11_circles 12 = .ok (.if_icmp .ge 55, 3) := by decide +kernel
theorem dX11_circles_15 : decode cX11_circles 15 = .ok (.iconst 0, 1) := by decide +kernel
theorem dX11_circles_16 : decode cX11_circles 16 = .ok (.istore_n 3, 1) := by decide +kernel
theorem dX11_circles_17 : decode cX11_circles 17 = .ok (.iload_n 3, 1) := by decide +kernel
theorem dX11_circles_18 : decode cX11_circles 18 = .ok (.aload_n 0, 1) := by decide +kernel
theorem dX11_circles_19 : decode cX11_circles 19 = .ok (.getfield 16, 3) := by decide +kernel
theorem dX11_circles_22 : decode cX11_circles 22 = .ok (.invokevirtual 33, 3) := by decide +kernel
theorem dX11_circles_25 : decode cX11_circles 25 = .ok (.if_icmp .ge 36, 3) := by decide +kernel
theorem dX11_circles_28 : decode cX11_circles 28 = .ok (.iload_n 1, 1) := by decide +kernel
theorem dX11_circles_29 : decode cX11_circles 29 = .ok (.iload_n 2, 1) := by decide +kernel
theorem dX11_circles_30 : decode cX11_circles 30 = .ok (.iload_n 3, 1) := by decide +kernel
theorem dX11_circles_31 : decode cX11_circles 31 = .ok (.if_icmp .eq 18, 3) := by decide +kernel
theorem dX11_circles_34 : decode cX11_circles 34 = .ok (.aload_n 0, 1) := by decide +kernel
theorem dX11_circles_35 : decode cX11_circles 35 = .ok (.iload_n 2, 1) := by decide +kernel
theorem dX11_circles_36 : decode cX11_circles 36 = .ok (.iload_n 3, 1) := by decide +kernel
theorem dX11_circles_37 : decode cX11_circles 37 = .ok (.invokevirtual 261, 3) := by decide +kernel
theorem dX11_circles_40 : decode cX11_circles 40 = .ok (.bipush (-2), 2) := by decide +kernel
theorem dX11_circles_42 : decode cX11_circles 42 = .ok (.if_icmp .ne 7, 3) := by decide +kernel
theorem dX11_circles_45 : decode cX11_circles 45 = .ok (.iconst 1, 1) := by decide +kernel
theorem dX11_circles_46 : decode cX11_circles 46 = .ok (.goto 4, 3) := by decide +kernel
theorem dX11_circles_49 : decode cX11_circles 49 = .ok (.iconst 0, 1) := by decide +kernel
theorem dX11_circles_50 : decode cX11_circles 50 = .ok (.invokestatic 67, 3) := by decide +kernel
theorem dX11_circles_53 : decode cX11_circles 53 = .ok (.iadd, 1) := by decide +kernel
theorem dX11_circles_54 : decode cX11_circles 54 = .ok (.istore_n 1, 1) := by decide +kernel
theorem dX11_circles_55 : decode cX11_circles 55 = .ok (.iinc 3 1, 3) := by decide +kernel
theorem dX11_circles_58 : decode cX11_circles 58 = .ok (.goto (-41), 3) := by decide +kernel
theorem dX11_circles_61 : decode cX11_circles 61 = .ok (.iinc 2 1, 3) := by decide +kernel
theorem dX11_circles_64 : decode cX11_circles 64 = .ok (.goto (-60), 3) := by decide +kernel
theorem dX11_circles_67 : decode cX11_circles 67 = .ok (.iload_n 1, 1) := by decide +kernel
theorem dX11_circles_68 : decode cX11_circles 68 = .ok (.ireturn, 1) := by decide +kernel
theorem dX11_airTold_0 : decode cX11_airTold 0 = .ok (.iconst 0, 1) := by decide +kernel
theorem dX11_airTold_1 : decode cX11_airTold 1 = .ok (.istore_n 2, 1) := by decide +kernel
theorem dX11_airTold_2 : decode cX11_airTold 2 = .ok (.aload_n 0, 1) := by decide +kernel
theorem dX11_airTold_3 : decode cX11_airTold 3 = .ok (.getfield 16, 3) := by decide +kernel
theorem dX11_airTold_6 : decode cX11_airTold 6 = .ok (.invokevirtual 150, 3) := by decide +kernel
theorem dX11_airTold_9 : decode cX11_airTold 9 = .ok (.astore_n 3, 1) := by decide +kernel
theorem dX11_airTold_10 : decode cX11_airTold 10 = .ok (.aload_n 3, 1) := by decide +kernel
theorem dX11_airTold_11 : decode cX11_airTold 11 = .ok (.invokeinterface 154 1, 5) := by decide +kernel
theorem dX11_airTold_16 : decode cX11_airTold 16 = .ok (.ifCond .eq 28, 3) := by decide +kernel
theorem dX11_airTold_19 : decode cX11_airTold 19 = .ok (.aload_n 3, 1) := by decide +kernel
theorem dX11_airTold_20 : decode cX11_airTold 20 = .ok (.invokeinterface 159 1, 5) := by decide +kernel
theorem dX11_airTold_25 : decode cX11_airTold 25 = .ok (.checkcast 45, 3) := by decide +kernel
theorem dX11_airTold_28 : decode cX11_airTold 28 = .ok (.astore 4, 2) := by decide +kernel
theorem dX11_airTold_30 : decode cX11_airTold 30 = .ok (.iload_n 2, 1) := by decide +kernel
theorem dX11_airTold_31 : decode cX11_airTold 31 = .ok (.aload 4, 2) := by decide +kernel
theorem dX11_airTold_33 : decode cX11_airTold 33 = .ok (.getfield 102, 3) := by decide +kernel
theorem dX11_airTold_36 : decode cX11_airTold 36 = .ok (.invokevirtual 33, 3) := by decide +kernel
theorem dX11_airTold_39 : decode cX11_airTold 39 = .ok (.iadd, 1) := by decide +kernel
theorem dX11_airTold_40 : decode cX11_airTold 40 = .ok (.istore_n 2, 1) := by decide +kernel
theorem dX11_airTold_41 : decode cX11_airTold 41 = .ok (.goto (-31), 3) := by decide +kernel
theorem dX11_airTold_44 : decode cX11_airTold 44 = .ok (.bipush 13, 2) := by decide +kernel
theorem dX11_airTold_46 : decode cX11_airTold 46 = .ok (.newarray .int, 2) := by decide +kernel
theorem dX11_airTold_48 : decode cX11_airTold 48 = .ok (.dup, 1) := by decide +kernel
theorem dX11_airTold_49 : decode cX11_airTold 49 = .ok (.iconst 0, 1) := by decide +kernel
theorem dX11_airTold_50 : decode cX11_airTold 50 = .ok (.aload_n 0, 1) := by decide +kernel
theorem dX11_airTold_51 : decode cX11_airTold 51 = .ok (.getfield 111, 3) := by decide +kernel
theorem dX11_airTold_54 : decode cX11_airTold 54 = .ok (.iastore, 1) := by decide +kernel
theorem dX11_airTold_55 : decode cX11_airTold 55 = .ok (.dup, 1) := by decide +kernel
theorem dX11_airTold_56 : decode cX11_airTold 56 = .ok (.iconst 1, 1) := by decide +kernel
theorem dX11_airTold_57 : decode cX11_airTold 57 = .ok (.aload_n 0, 1) := by decide +kernel
theorem dX11_airTold_58 : decode cX11_airTold 58 = .ok (.getfield 16, 3) := by decide +kernel
theorem dX11_airTold_61 : decode cX11_airTold 61 = .ok (.invokevirtual 33, 3) := by decide +kernel
theorem dX11_airTold_64 : decode cX11_airTold 64 = .ok (.iastore, 1) := by decide +kernel
theorem dX11_airTold_65 : decode cX11_airTold 65 = .ok (.dup, 1) := by decide +kernel
theorem dX11_airTold_66 : decode cX11_airTold 66 = .ok (.iconst 2, 1) := by decide +kernel
theorem dX11_airTold_67 : decode cX11_airTold 67 = .ok (.aload_n 0, 1) := by decide +kernel
theorem dX11_airTold_68 : decode cX11_airTold 68 = .ok (.getfield 7, 3) := by decide +kernel
theorem dX11_airTold_71 : decode cX11_airTold 71 = .ok (.iastore, 1) := by decide +kernel
theorem dX11_airTold_72 : decode cX11_airTold 72 = .ok (.dup, 1) := by decide +kernel
theorem dX11_airTold_73 : decode cX11_airTold 73 = .ok (.iconst 3, 1) := by decide +kernel
theorem dX11_airTold_74 : decode cX11_airTold 74 = .ok (.aload_n 0, 1) := by decide +kernel
theorem dX11_airTold_75 : decode cX11_airTold 75 = .ok (.invokevirtual 193, 3) := by decide +kernel
theorem dX11_airTold_78 : decode cX11_airTold 78 = .ok (.invokestatic 93, 3) := by decide +kernel
theorem dX11_airTold_81 : decode cX11_airTold 81 = .ok (.iastore, 1) := by decide +kernel
theorem dX11_airTold_82 : decode cX11_airTold 82 = .ok (.dup, 1) := by decide +kernel
theorem dX11_airTold_83 : decode cX11_airTold 83 = .ok (.iconst 4, 1) := by decide +kernel
theorem dX11_airTold_84 : decode cX11_airTold 84 = .ok (.aload_n 0, 1) := by decide +kernel
theorem dX11_airTold_85 : decode cX11_airTold 85 = .ok (.getfield 168, 3) := by decide +kernel
theorem dX11_airTold_88 : decode cX11_airTold 88 = .ok (.iastore, 1) := by decide +kernel
theorem dX11_airTold_89 : decode cX11_airTold 89 = .ok (.dup, 1) := by decide +kernel
theorem dX11_airTold_90 : decode cX11_airTold 90 = .ok (.iconst 5, 1) := by decide +kernel
theorem dX11_airTold_91 : decode cX11_airTold 91 = .ok (.aload_n 0, 1) := by decide +kernel
theorem dX11_airTold_92 : decode cX11_airTold 92 = .ok (.getfield 165, 3) := by decide +kernel
theorem dX11_airTold_95 : decode cX11_airTold 95 = .ok (.iastore, 1) := by decide +kernel
theorem dX11_airTold_96 : decode cX11_airTold 96 = .ok (.dup, 1) := by decide +kernel
theorem dX11_airTold_97 : decode cX11_airTold 97 = .ok (.bipush 6, 2) := by decide +kernel
theorem dX11_airTold_99 : decode cX11_airTold 99 = .ok (.aload_n 0, 1) := by decide +kernel
theorem dX11_airTold_100 : decode cX11_airTold 100 = .ok (.getfield 120, 3) := by decide +kernel
theorem dX11_airTold_103 : decode cX11_airTold 103 = .ok (.iastore, 1) := by decide +kernel
theorem dX11_airTold_104 : decode cX11_airTold 104 = .ok (.dup, 1) := by decide +kernel
theorem dX11_airTold_105 : decode cX11_airTold 105 = .ok (.bipush 7, 2) := by decide +kernel
theorem dX11_airTold_107 : decode cX11_airTold 107 = .ok (.iload_n 2, 1) := by decide +kernel
theorem dX11_airTold_108 : decode cX11_airTold 108 = .ok (.iastore, 1) := by decide +kernel
theorem dX11_airTold_109 : decode cX11_airTold 109 = .ok (.dup, 1) := by decide +kernel
theorem dX11_airTold_110 : decode cX11_airTold 110 = .ok (.bipush 8, 2) := by decide +kernel
theorem dX11_airTold_112 : decode cX11_airTold 112 = .ok (.aload_n 0, 1) := by decide +kernel
theorem dX11_airTold_113 : decode cX11_airTold 113 = .ok (.getfield 218, 3) := by decide +kernel
theorem dX11_airTold_116 : decode cX11_airTold 116 = .ok (.iastore, 1) := by decide +kernel
theorem dX11_airTold_117 : decode cX11_airTold 117 = .ok (.dup, 1) := by decide +kernel
theorem dX11_airTold_118 : decode cX11_airTold 118 = .ok (.bipush 9, 2) := by decide +kernel
theorem dX11_airTold_120 : decode cX11_airTold 120 = .ok (.aload_n 0, 1) := by decide +kernel
theorem dX11_airTold_121 : decode cX11_airTold 121 = .ok (.getfield 23, 3) := by decide +kernel
theorem dX11_airTold_124 : decode cX11_airTold 124 = .ok (.invokevirtual 33, 3) := by decide +kernel
theorem dX11_airTold_127 : decode cX11_airTold 127 = .ok (.iastore, 1) := by decide +kernel
theorem dX11_airTold_128 : decode cX11_airTold 128 = .ok (.dup, 1) := by decide +kernel
theorem dX11_airTold_129 : decode cX11_airTold 129 = .ok (.bipush 10, 2) := by decide +kernel
theorem dX11_airTold_131 : decode cX11_airTold 131 = .ok (.aload_n 0, 1) := by decide +kernel
theorem dX11_airTold_132 : decode cX11_airTold 132 = .ok (.getfield 240, 3) := by decide +kernel
theorem dX11_airTold_135 : decode cX11_airTold 135 = .ok (.iastore, 1) := by decide +kernel
theorem dX11_airTold_136 : decode cX11_airTold 136 = .ok (.dup, 1) := by decide +kernel
theorem dX11_airTold_137 : decode cX11_airTold 137 = .ok (.bipush 11, 2) := by decide +kernel
theorem dX11_airTold_139 : decode cX11_airTold 139 = .ok (.aload_n 0, 1) := by decide +kernel
theorem dX11_airTold_140 : decode cX11_airTold 140 = .ok (.getfield 246, 3) := by decide +kernel
theorem dX11_airTold_143 : decode cX11_airTold 143 = .ok (.iastore, 1) := by decide +kernel
theorem dX11_airTold_144 : decode cX11_airTold 144 = .ok (.dup, 1) := by decide +kernel
theorem dX11_airTold_145 : decode cX11_airTold 145 = .ok (.bipush 12, 2) := by decide +kernel
theorem dX11_airTold_147 : decode cX11_airTold 147 = .ok (.aload_n 0, 1) := by decide +kernel
theorem dX11_airTold_148 : decode cX11_airTold 148 = .ok (.invokevirtual 272, 3) := by decide +kernel
theorem dX11_airTold_151 : decode cX11_airTold 151 = .ok (.iastore, 1) := by decide +kernel
theorem dX11_airTold_152 : decode cX11_airTold 152 = .ok (.astore_n 3, 1) := by decide +kernel
theorem dX11_airTold_153 : decode cX11_airTold 153 = .ok (.aload_n 3, 1) := by decide +kernel
theorem dX11_airTold_154 : decode cX11_airTold 154 = .ok (.iload_n 1, 1) := by decide +kernel
theorem dX11_airTold_155 : decode cX11_airTold 155 = .ok (.iaload, 1) := by decide +kernel
theorem dX11_airTold_156 : decode cX11_airTold 156 = .ok (.ireturn, 1) := by decide +kernel
theorem dX11_air_0 : decode cX11_air 0 = .ok (.aload_n 0, 1) := by decide +kernel
theorem dX11_air_1 : decode cX11_air 1 = .ok (.iload_n 1, 1) := by decide +kernel
theorem dX11_air_2 : decode cX11_air 2 = .ok (.iconst 0, 1) := by decide +kernel
theorem dX11_air_3 : decode cX11_air 3 = .ok (.bipush 12, 2) := by decide +kernel
theorem dX11_air_5 : decode cX11_air 5 = .ok (.invokestatic 37, 3) := by decide +kernel
theorem dX11_air_8 : decode cX11_air 8 = .ok (.ifCond .ne 7, 3) := by decide +kernel
theorem dX11_air_11 : decode cX11_air 11 = .ok (.iconst 1, 1) := by decide +kernel
theorem dX11_air_12 : decode cX11_air 12 = .ok (.goto 4, 3) := by decide +kernel
theorem dX11_air_15 : decode cX11_air 15 = .ok (.iconst 0, 1) := by decide +kernel
theorem dX11_air_16 : decode cX11_air 16 = .ok (.iconst 1, 1) := by decide +kernel
theorem dX11_air_17 : decode cX11_air 17 = .ok (.invokevirtual 71, 3) := by decide +kernel
theorem dX11_air_20 : decode cX11_air 20 = .ok (.ifCond .eq 7, 3) := by decide +kernel
theorem dX11_air_23 : decode cX11_air 23 = .ok (.iconst 0, 1) := by decide +kernel
theorem dX11_air_24 : decode cX11_air 24 = .ok (.goto 8, 3) := by decide +kernel
theorem dX11_air_27 : decode cX11_air 27 = .ok (.aload_n 0, 1) := by decide +kernel
theorem dX11_air_28 : decode cX11_air 28 = .ok (.iload_n 1, 1) := by decide +kernel
theorem dX11_air_29 : decode cX11_air 29 = .ok (.invokevirtual 275, 3) := by decide +kernel
theorem dX11_air_32 : decode cX11_air 32 = .ok (.ireturn, 1) := by decide +kernel
theorem dX11_delivered_0 : decode cX11_delivered 0 = .ok (.aload_n 0, 1) := by decide +kernel
theorem dX11_delivered_1 : decode cX11_delivered 1 = .ok (.aload_n 0, 1) := by decide +kernel
theorem dX11_delivered_2 : decode cX11_delivered 2 = .ok (.iload_n 1, 1) := by decide +kernel
theorem dX11_delivered_3 : decode cX11_delivered 3 = .ok (.invokevirtual 81, 3) := by decide +kernel
theorem dX11_delivered_6 : decode cX11_delivered 6 = .ok (.ifCond .ne 27, 3) := by decide +kernel
theorem dX11_delivered_9 : decode cX11_delivered 9 = .ok (.iload_n 2, 1) := by decide +kernel
theorem dX11_delivered_10 : decode cX11_delivered 10 = .ok (.iconst 0, 1) := by decide +kernel
theorem dX11_delivered_11 : decode cX11_delivered 11 = .ok (.aload_n 0, 1) := by decide +kernel
theorem dX11_delivered_12 : decode cX11_delivered 12 = .ok (.getfield 16, 3) := by decide +kernel
theorem dX11_delivered_15 : decode cX11_delivered 15 = .ok (.iload_n 1, 1) := by decide +kernel
theorem dX11_delivered_16 : decode cX11_delivered 16 = .ok (.invokevirtual 41, 3) := by decide +kernel
theorem dX11_delivered_19 : decode cX11_delivered 19 = .ok (.checkcast 45, 3) := by decide +kernel
theorem dX11_delivered_22 : decode cX11_delivered 22 = .ok (.getfield 105, 3) := by decide +kernel
theorem dX11_delivered_25 : decode cX11_delivered 25 = .ok (.iconst 1, 1) := by decide +kernel
theorem dX11_delivered_26 : decode cX11_delivered 26 = .ok (.isub, 1) := by decide +kernel
theorem dX11_delivered_27 : decode cX11_delivered 27 = .ok (.invokestatic 37, 3) := by decide +kernel
theorem dX11_delivered_30 : decode cX11_delivered 30 = .ok (.ifCond .ne 7, 3) := by decide +kernel
theorem dX11_delivered_33 : decode cX11_delivered 33 = .ok (.iconst 1, 1) := by decide +kernel
theorem dX11_delivered_34 : decode cX11_delivered 34 = .ok (.goto 4, 3) := by decide +kernel
theorem dX11_delivered_37 : decode cX11_delivered 37 = .ok (.iconst 0, 1) := by decide +kernel
theorem dX11_delivered_38 : decode cX11_delivered 38 = .ok (.iconst 1, 1) := by decide +kernel
theorem dX11_delivered_39 : decode cX11_delivered 39 = .ok (.invokevirtual 71, 3) := by decide +kernel
theorem dX11_delivered_42 : decode cX11_delivered 42 = .ok (.ifCond .ne 16, 3) := by decide +kernel
theorem dX11_delivered_45 : decode cX11_delivered 45 = .ok (.aload_n 0, 1) := by decide +kernel
theorem dX11_delivered_46 : decode cX11_delivered 46 = .ok (.iload_n 1, 1) := by decide +kernel
theorem dX11_delivered_47 : decode cX11_delivered 47 = .ok (.iload_n 2, 1) := by decide +kernel
theorem dX11_delivered_48 : decode cX11_delivered 48 = .ok (.invokevirtual 162, 3) := by decide +kernel
theorem dX11_delivered_51 : decode cX11_delivered 51 = .ok (.ifCond .eq 7, 3) := by decide +kernel
theorem dX11_delivered_54 : decode cX11_delivered 54 = .ok (.iconst 1, 1) := by decide +kernel
theorem dX11_delivered_55 : decode cX11_delivered 55 = .ok (.goto 4, 3) := by decide +kernel
theorem dX11_delivered_58 : decode cX11_delivered 58 = .ok (.iconst 0, 1) := by decide +kernel
theorem dX11_delivered_59 : decode cX11_delivered 59 = .ok (.ireturn, 1) := by decide +kernel
theorem dX11_fairnessNow_0 : decode cX11_fairnessNow 0 = .ok (.dconst 0, 1) := by decide +kernel
theorem dX11_fairnessNow_1 : decode cX11_fairnessNow 1 = .ok (.dstore_n 1, 1) := by decide +kernel
theorem dX11_fairnessNow_2 : decode cX11_fairnessNow 2 = .ok (.dconst 0, 1) := by decide +kernel
theorem dX11_fairnessNow_3 : decode cX11_fairnessNow 3 = .ok (.dstore_n 3, 1) := by decide +kernel
theorem dX11_fairnessNow_4 : decode cX11_fairnessNow 4 = .ok (.aload_n 0, 1) := by decide +kernel
theorem dX11_fairnessNow_5 : decode cX11_fairnessNow 5 = .ok (.getfield 16, 3) := by decide +kernel
theorem dX11_fairnessNow_8 : decode cX11_fairnessNow 8 = .ok (.invokevirtual 150, 3) := by decide +kernel
theorem dX11_fairnessNow_11 : decode cX11_fairnessNow 11 = .ok (.astore 5, 2) := by decide +kernel
theorem dX11_fairnessNow_13 : decode cX11_fairnessNow 13 = .ok (.aload 5, 2) := by decide +kernel
theorem dX11_fairnessNow_15 : decode cX11_fairnessNow 15 = .ok (.invokeinterface 154 1, 5) := by decide +kernel
theorem dX11_fairnessNow_20 : decode cX11_fairnessNow 20 = .ok (.ifCond .eq 43, 3) := by decide +kernel
theorem dX11_fairnessNow_23 : decode cX11_fairnessNow 23 = .ok (.aload 5, 2) := by decide +kernel
theorem dX11_fairnessNow_25 : decode cX11_fairnessNow 25 = .ok (.invokeinterface 159 1, 5) := by decide +kernel
theorem dX11_fairnessNow_30 : decode cX11_fairnessNow 30 = .ok (.checkcast 45, 3) := by decide +kernel
theorem dX11_fairnessNow_33 : decode cX11_fairnessNow 33 = .ok (.astore 6, 2) := by decide +kernel
theorem dX11_fairnessNow_35 : decode cX11_fairnessNow 35 = .ok (.dload_n 1, 1) := by decide +kernel
theorem dX11_fairnessNow_36 : decode cX11_fairnessNow 36 = .ok (.aload 6, 2) := by decide +kernel
theorem dX11_fairnessNow_38 : decode cX11_fairnessNow 38 = .ok (.getfield 196, 3) := by decide +kernel
theorem dX11_fairnessNow_41 : decode cX11_fairnessNow 41 = .ok (.i2d, 1) := by decide +kernel
theorem dX11_fairnessNow_42 : decode cX11_fairnessNow 42 = .ok (.dadd, 1) := by decide +kernel
theorem dX11_fairnessNow_43 : decode cX11_fairnessNow 43 = .ok (.dstore_n 1, 1) := by decide +kernel
theorem dX11_fairnessNow_44 : decode cX11_fairnessNow 44 = .ok (.dload_n 3, 1) := by decide +kernel
theorem dX11_fairnessNow_45 : decode cX11_fairnessNow 45 = .ok (.aload 6, 2) := by decide +kernel
theorem dX11_fairnessNow_47 : decode cX11_fairnessNow 47 = .ok (.getfield 196, 3) := by decide +kernel
theorem dX11_fairnessNow_50 : decode cX11_fairnessNow 50 = .ok (.i2d, 1) := by decide +kernel
theorem dX11_fairnessNow_51 : decode cX11_fairnessNow 51 = .ok (.aload 6, 2) := by decide +kernel
theorem dX11_fairnessNow_53 : decode cX11_fairnessNow 53 = .ok (.getfield 196, 3) := by decide +kernel
theorem dX11_fairnessNow_56 : decode cX11_fairnessNow 56 = .ok (.i2d, 1) := by decide +kernel
theorem dX11_fairnessNow_57 : decode cX11_fairnessNow 57 = .ok (.dmul, 1) := by decide +kernel
theorem dX11_fairnessNow_58 : decode cX11_fairnessNow 58 = .ok (.dadd, 1) := by decide +kernel
theorem dX11_fairnessNow_59 : decode cX11_fairnessNow 59 = .ok (.dstore_n 3, 1) := by decide +kernel
theorem dX11_fairnessNow_60 : decode cX11_fairnessNow 60 = .ok (.goto (-47), 3) := by decide +kernel
theorem dX11_fairnessNow_63 : decode cX11_fairnessNow 63 = .ok (.dload_n 3, 1) := by decide +kernel
theorem dX11_fairnessNow_64 : decode cX11_fairnessNow 64 = .ok (.dconst 0, 1) := by decide +kernel
theorem dX11_fairnessNow_65 : decode cX11_fairnessNow 65 = .ok (.dcmp .l, 1) := by decide +kernel
theorem dX11_fairnessNow_66 : decode cX11_fairnessNow 66 = .ok (.ifCond .ne 7, 3) := by decide +kernel
theorem dX11_fairnessNow_69 : decode cX11_fairnessNow 69 = .ok (.dconst 1, 1) := by decide +kernel
theorem dX11_fairnessNow_70 : decode cX11_fairnessNow 70 = .ok (.goto 17, 3) := by decide +kernel
theorem dX11_fairnessNow_73 : decode cX11_fairnessNow 73 = .ok (.dload_n 1, 1) := by decide +kernel
theorem dX11_fairnessNow_74 : decode cX11_fairnessNow 74 = .ok (.dload_n 1, 1) := by decide +kernel
theorem dX11_fairnessNow_75 : decode cX11_fairnessNow 75 = .ok (.dmul, 1) := by decide +kernel
theorem dX11_fairnessNow_76 : decode cX11_fairnessNow 76 = .ok (.aload_n 0, 1) := by decide +kernel
theorem dX11_fairnessNow_77 : decode cX11_fairnessNow 77 = .ok (.getfield 16, 3) := by decide +kernel
theorem dX11_fairnessNow_80 : decode cX11_fairnessNow 80 = .ok (.invokevirtual 33, 3) := by decide +kernel
theorem dX11_fairnessNow_83 : decode cX11_fairnessNow 83 = .ok (.i2d, 1) := by decide +kernel
theorem dX11_fairnessNow_84 : decode cX11_fairnessNow 84 = .ok (.dload_n 3, 1) := by decide +kernel
theorem dX11_fairnessNow_85 : decode cX11_fairnessNow 85 = .ok (.dmul, 1) := by decide +kernel
theorem dX11_fairnessNow_86 : decode cX11_fairnessNow 86 = .ok (.ddiv, 1) := by decide +kernel
theorem dX11_fairnessNow_87 : decode cX11_fairnessNow 87 = .ok (.dreturn, 1) := by decide +kernel
theorem dX11_fairness_0 : decode cX11_fairness 0 = .ok (.aload_n 0, 1) := by decide +kernel
theorem dX11_fairness_1 : decode cX11_fairness 1 = .ok (.iconst 0, 1) := by decide +kernel
theorem dX11_fairness_2 : decode cX11_fairness 2 = .ok (.putfield 26, 3) := by decide +kernel
theorem dX11_fairness_5 : decode cX11_fairness 5 = .ok (.aload_n 0, 1) := by decide +kernel
theorem dX11_fairness_6 : decode cX11_fairness 6 = .ok (.invokevirtual 278, 3) := by decide +kernel
theorem dX11_fairness_9 : decode cX11_fairness 9 = .ok (.dreturn, 1) := by decide +kernel
theorem dX11_row_0 : decode cX11_row 0 = .ok (.aload_n 0, 1) := by decide +kernel
theorem dX11_row_1 : decode cX11_row 1 = .ok (.iconst 0, 1) := by decide +kernel
theorem dX11_row_2 : decode cX11_row 2 = .ok (.putfield 26, 3) := by decide +kernel
theorem dX11_row_5 : decode cX11_row 5 = .ok (.new 282, 3) := by decide +kernel
theorem dX11_row_8 : decode cX11_row 8 = .ok (.dup, 1) := by decide +kernel
theorem dX11_row_9 : decode cX11_row 9 = .ok (.invokespecial 284, 3) := by decide +kernel
theorem dX11_row_12 : decode cX11_row 12 = .ok (.astore_n 1, 1) := by decide +kernel
theorem dX11_row_13 : decode cX11_row 13 = .ok (.aload_n 0, 1) := by decide +kernel
theorem dX11_row_14 : decode cX11_row 14 = .ok (.getfield 16, 3) := by decide +kernel
theorem dX11_row_17 : decode cX11_row 17 = .ok (.invokevirtual 150, 3) := by decide +kernel
theorem dX11_row_20 : decode cX11_row 20 = .ok (.astore_n 2, 1) := by decide +kernel
theorem dX11_row_21 : decode cX11_row 21 = .ok (.aload_n 2, 1) := by decide +kernel
theorem dX11_row_22 : decode cX11_row 22 = .ok (.invokeinterface 154 1, 5) := by decide +kernel
theorem dX11_row_27 : decode cX11_row 27 = .ok (.ifCond .eq 62, 3) := by decide +kernel
theorem dX11_row_30 : decode cX11_row 30 = .ok (.aload_n 2, 1) := by decide +kernel
theorem dX11_row_31 : decode cX11_row 31 = .ok (.invokeinterface 159 1, 5) := by decide +kernel
theorem dX11_row_36 : decode cX11_row 36 = .ok (.checkcast 45, 3) := by decide +kernel
theorem dX11_row_39 : decode cX11_row 39 = .ok (.astore_n 3, 1) := by decide +kernel
theorem dX11_row_40 : decode cX11_row 40 = .ok (.aload_n 1, 1) := by decide +kernel
theorem dX11_row_41 : decode cX11_row 41 = .ok (.aload_n 3, 1) := by decide +kernel
theorem dX11_row_42 : decode cX11_row 42 = .ok (.invokevirtual 85, 3) := by decide +kernel
theorem dX11_row_45 : decode cX11_row 45 = .ok (.ifCond .eq 8, 3) := by decide +kernel
theorem dX11_row_48 : decode cX11_row 48 = .ok (.bipush 84, 2) := by decide +kernel
theorem dX11_row_50 : decode cX11_row 50 = .ok (.goto 32, 3) := by decide +kernel
theorem dX11_row_53 : decode cX11_row 53 = .ok (.aload_n 3, 1) := by decide +kernel
theorem dX11_row_54 : decode cX11_row 54 = .ok (.getfield 123, 3) := by decide +kernel
theorem dX11_row_57 : decode cX11_row 57 = .ok (.ifCond .le 8, 3) := by decide +kernel
theorem dX11_row_60 : decode cX11_row 60 = .ok (.bipush 119, 2) := by decide +kernel
theorem dX11_row_62 : decode cX11_row 62 = .ok (.goto 20, 3) := by decide +kernel
theorem dX11_row_65 : decode cX11_row 65 = .ok (.aload_n 3, 1) := by decide +kernel
theorem dX11_row_66 : decode cX11_row 66 = .ok (.getfield 102, 3) := by decide +kernel
theorem dX11_row_69 : decode cX11_row 69 = .ok (.invokevirtual 187, 3) := by decide +kernel
theorem dX11_row_72 : decode cX11_row 72 = .ok (.ifCond .eq 8, 3) := by decide +kernel
theorem dX11_row_75 : decode cX11_row 75 = .ok (.bipush 46, 2) := by decide +kernel
theorem dX11_row_77 : decode cX11_row 77 = .ok (.goto 5, 3) := by decide +kernel
theorem dX11_row_80 : decode cX11_row 80 = .ok (.bipush 113, 2) := by decide +kernel
theorem dX11_row_82 : decode cX11_row 82 = .ok (.invokevirtual 285, 3) := by decide +kernel
theorem dX11_row_85 : decode cX11_row 85 = .ok (.pop, 1) := by decide +kernel
theorem dX11_row_86 : decode cX11_row 86 = .ok (.goto (-65), 3) := by decide +kernel
theorem dX11_row_89 : decode cX11_row 89 = .ok (.aload_n 1, 1) := by decide +kernel
theorem dX11_row_90 : decode cX11_row 90 = .ok (.invokevirtual 289, 3) := by decide +kernel
theorem dX11_row_93 : decode cX11_row 93 = .ok (.areturn, 1) := by decide +kernel
theorem dX11_would_0 : decode cX11_would 0 = .ok (.aload_n 0, 1) := by decide +kernel
theorem dX11_would_1 : decode cX11_would 1 = .ok (.aload_n 0, 1) := by decide +kernel
theorem dX11_would_2 : decode cX11_would 2 = .ok (.iload_n 2, 1) := by decide +kernel
theorem dX11_would_3 : decode cX11_would 3 = .ok (.invokevirtual 81, 3) := by decide +kernel
theorem dX11_would_6 : decode cX11_would 6 = .ok (.iconst 1, 1) := by decide +kernel
theorem dX11_would_7 : decode cX11_would 7 = .ok (.invokevirtual 71, 3) := by decide +kernel
theorem dX11_would_10 : decode cX11_would 10 = .ok (.ifCond .ne 40, 3) := by decide +kernel
theorem dX11_would_13 : decode cX11_would 13 = .ok (.aload_n 0, 1) := by decide +kernel
theorem dX11_would_14 : decode cX11_would 14 = .ok (.iload_n 1, 1) := by decide +kernel
theorem dX11_would_15 : decode cX11_would 15 = .ok (.ifCond .lt 23, 3) := by decide +kernel
theorem dX11_would_18 : decode cX11_would 18 = .ok (.iload_n 1, 1) := by decide +kernel
theorem dX11_would_19 : decode cX11_would 19 = .ok (.aload_n 0, 1) := by decide +kernel
theorem dX11_would_20 : decode cX11_would 20 = .ok (.getfield 16, 3) := by decide +kernel
theorem dX11_would_23 : decode cX11_would 23 = .ok (.invokevirtual 33, 3) := by decide +kernel
theorem dX11_would_26 : decode cX11_would 26 = .ok (.ishr, 1) := by decide +kernel
theorem dX11_would_27 : decode cX11_would 27 = .ok (.ifCond .ne 11, 3) := by decide +kernel
theorem dX11_would_30 : decode cX11_would 30 = .ok (.iload_n 1, 1) := by decide +kernel
theorem dX11_would_31 : decode cX11_would 31 = .ok (.iload_n 2, 1) := by decide +kernel
theorem dX11_would_32 : decode cX11_would 32 = .ok (.invokestatic 147, 3) := by decide +kernel
theorem dX11_would_35 : decode cX11_would 35 = .ok (.ifCond .eq 7, 3) := by decide +kernel
theorem dX11_would_38 : decode cX11_would 38 = .ok (.iconst 1, 1) := by decide +kernel
theorem dX11_would_39 : decode cX11_would 39 = .ok (.goto 4, 3) := by decide +kernel
theorem dX11_would_42 : decode cX11_would 42 = .ok (.iconst 0, 1) := by decide +kernel
theorem dX11_would_43 : decode cX11_would 43 = .ok (.iconst 2, 1) := by decide +kernel
theorem dX11_would_44 : decode cX11_would 44 = .ok (.invokevirtual 29, 3) := by decide +kernel
theorem dX11_would_47 : decode cX11_would 47 = .ok (.ifCond .eq 5, 3) := by decide +kernel
theorem dX11_would_50 : decode cX11_would 50 = .ok (.iconst 0, 1) := by decide +kernel
theorem dX11_would_51 : decode cX11_would 51 = .ok (.ireturn, 1) := by decide +kernel
theorem dX11_would_52 : decode cX11_would 52 = .ok (.iconst 0, 1) := by decide +kernel
theorem dX11_would_53 : decode cX11_would 53 = .ok (.istore_n 3, 1) := by decide +kernel
theorem dX11_would_54 : decode cX11_would 54 = .ok (.iload_n 3, 1) := by decide +kernel
theorem dX11_would_55 : decode cX11_would 55 = .ok (.aload_n 0, 1) := by decide +kernel
theorem dX11_would_56 : decode cX11_would 56 = .ok (.getfield 16, 3) := by decide +kernel
theorem dX11_would_59 : decode cX11_would 59 = .ok (.invokevirtual 33, 3) := by decide +kernel
theorem dX11_would_62 : decode cX11_would 62 = .ok (.if_icmp .ge 29, 3) := by decide +kernel
theorem dX11_would_65 : decode cX11_would 65 = .ok (.iload_n 1, 1) := by decide +kernel
theorem dX11_would_66 : decode cX11_would 66 = .ok (.iload_n 3, 1) := by decide +kernel
theorem dX11_would_67 : decode cX11_would 67 = .ok (.invokestatic 147, 3) := by decide +kernel
theorem dX11_would_70 : decode cX11_would 70 = .ok (.ifCond .eq 15, 3) := by decide +kernel
theorem dX11_would_73 : decode cX11_would 73 = .ok (.aload_n 0, 1) := by decide +kernel
theorem dX11_would_74 : decode cX11_would 74 = .ok (.iload_n 2, 1) := by decide +kernel
theorem dX11_would_75 : decode cX11_would 75 = .ok (.iload_n 3, 1) := by decide +kernel
theorem dX11_would_76 : decode cX11_would 76 = .ok (.iload_n 1, 1) := by decide +kernel
theorem dX11_would_77 : decode cX11_would 77 = .ok (.invokevirtual 199, 3) := by decide +kernel
theorem dX11_would_80 : decode cX11_would 80 = .ok (.ifCond .eq 5, 3) := by decide +kernel
theorem dX11_would_83 : decode cX11_would 83 = .ok (.iload_n 3, 1) := by decide +kernel
theorem dX11_would_84 : decode cX11_would 84 = .ok (.ireturn, 1) := by decide +kernel
theorem dX11_would_85 : decode cX11_would 85 = .ok (.iinc 3 1, 3) := by decide +kernel
theorem dX11_would_88 : decode cX11_would 88 = .ok (.goto (-34), 3) := by decide +kernel
theorem dX11_would_91 : decode cX11_would 91 = .ok (.iconst (-1), 1) := by decide +kernel
theorem dX11_would_92 : decode cX11_would 92 = .ok (.ireturn, 1) := by decide +kernel
theorem dX11_throughputOf_0 : decode cX11_throughputOf 0 = .ok (.iload_n 0, 1) := by decide +kernel
theorem dX11_throughputOf_1 : decode cX11_throughputOf 1 = .ok (.iload_n 1, 1) := by decide +kernel
theorem dX11_throughputOf_2 : decode cX11_throughputOf 2 = .ok (.imul, 1) := by decide +kernel
theorem dX11_throughputOf_3 : decode cX11_throughputOf 3 = .ok (.i2d, 1) := by decide +kernel
theorem dX11_throughputOf_4 : decode cX11_throughputOf 4 = .ok (.ldc2_w 293, 3) := by decide +kernel
theorem dX11_throughputOf_7 : decode cX11_throughputOf 7 = .ok (.ddiv, 1) := by decide +kernel
theorem dX11_throughputOf_8 : decode cX11_throughputOf 8 = .ok (.dstore_n 2, 1) := by decide +kernel
theorem dX11_throughputOf_9 : decode cX11_throughputOf 9 = .ok (.iconst 1, 1) := by decide +kernel
theorem dX11_throughputOf_10 : decode cX11_throughputOf 10 = .ok (.istore 4, 2) := by decide +kernel
theorem dX11_throughputOf_12 : decode cX11_throughputOf 12 = .ok (.iload 4, 2) := by decide +kernel
theorem dX11_throughputOf_14 : decode cX11_throughputOf 14 = .ok (.iload_n 0, 1) := by decide +kernel
theorem dX11_throughputOf_15 : decode cX11_throughputOf 15 = .ok (.if_icmp .ge 21, 3) := by decide +kernel
theorem dX11_throughputOf_18 : decode cX11_throughputOf 18 = .ok (.dload_n 2, 1) := by decide +kernel
theorem dX11_throughputOf_19 : decode cX11_throughputOf 19 = .ok (.bipush 100, 2) := by decide +kernel
theorem dX11_throughputOf_21 : decode cX11_throughputOf 21 = .ok (.iload_n 1, 1) := by decide +kernel
theorem dX11_throughputOf_22 : decode cX11_throughputOf 22 = .ok (.isub, 1) := by decide +kernel
theorem dX11_throughputOf_23 : decode cX11_throughputOf 23 = .ok (.i2d, 1) := by decide +kernel
theorem dX11_throughputOf_24 : decode cX11_throughputOf 24 = .ok (.ldc2_w 293, 3) := by decide +kernel
theorem dX11_throughputOf_27 : decode cX11_throughputOf 27 = .ok (.ddiv, 1) := by decide +kernel
theorem dX11_throughputOf_28 : decode cX11_throughputOf 28 = .ok (.dmul, 1) := by decide +kernel
theorem dX11_throughputOf_29 : decode cX11_throughputOf 29 = .ok (.dstore_n 2, 1) := by decide +kernel
theorem dX11_throughputOf_30 : decode cX11_throughputOf 30 = .ok (.iinc 4 1, 3) := by decide +kernel
theorem dX11_throughputOf_33 : decode cX11_throughputOf 33 = .ok (.goto (-21), 3) := by decide +kernel
theorem dX11_throughputOf_36 : decode cX11_throughputOf 36 = .ok (.dload_n 2, 1) := by decide +kernel
theorem dX11_throughputOf_37 : decode cX11_throughputOf 37 = .ok (.dreturn, 1) := by decide +kernel
theorem dX11_throughput_0 : decode cX11_throughput 0 = .ok (.aload_n 0, 1) := by decide +kernel
theorem dX11_throughput_1 : decode cX11_throughput 1 = .ok (.iload_n 1, 1) := by decide +kernel
theorem dX11_throughput_2 : decode cX11_throughput 2 = .ok (.iconst 1, 1) := by decide +kernel
theorem dX11_throughput_3 : decode cX11_throughput 3 = .ok (.bipush 20, 2) := by decide +kernel
theorem dX11_throughput_5 : decode cX11_throughput 5 = .ok (.invokestatic 37, 3) := by decide +kernel
theorem dX11_throughput_8 : decode cX11_throughput 8 = .ok (.ifCond .eq 13, 3) := by decide +kernel
theorem dX11_throughput_11 : decode cX11_throughput 11 = .ok (.iload_n 2, 1) := by decide +kernel
theorem dX11_throughput_12 : decode cX11_throughput 12 = .ok (.iconst 0, 1) := by decide +kernel
theorem dX11_throughput_13 : decode cX11_throughput 13 = .ok (.bipush 100, 2) := by decide +kernel
theorem dX11_throughput_15 : decode cX11_throughput 15 = .ok (.invokestatic 37, 3) := by decide +kernel
theorem dX11_throughput_18 : decode cX11_throughput 18 = .ok (.ifCond .ne 7, 3) := by decide +kernel
theorem dX11_throughput_21 : decode cX11_throughput 21 = .ok (.iconst 1, 1) := by decide +kernel
theorem dX11_throughput_22 : decode cX11_throughput 22 = .ok (.goto 4, 3) := by decide +kernel
theorem dX11_throughput_25 : decode cX11_throughput 25 = .ok (.iconst 0, 1) := by decide +kernel
theorem dX11_throughput_26 : decode cX11_throughput 26 = .ok (.iconst 1, 1) := by decide +kernel
theorem dX11_throughput_27 : decode cX11_throughput 27 = .ok (.invokevirtual 71, 3) := by decide +kernel
theorem dX11_throughput_30 : decode cX11_throughput 30 = .ok (.ifCond .eq 7, 3) := by decide +kernel
theorem dX11_throughput_33 : decode cX11_throughput 33 = .ok (.dconst 0, 1) := by decide +kernel
theorem dX11_throughput_34 : decode cX11_throughput 34 = .ok (.goto 8, 3) := by decide +kernel
theorem dX11_throughput_37 : decode cX11_throughput 37 = .ok (.iload_n 1, 1) := by decide +kernel
theorem dX11_throughput_38 : decode cX11_throughput 38 = .ok (.iload_n 2, 1) := by decide +kernel
theorem dX11_throughput_39 : decode cX11_throughput 39 = .ok (.invokestatic 295, 3) := by decide +kernel
theorem dX11_throughput_42 : decode cX11_throughput 42 = .ok (.dreturn, 1) := by decide +kernel
theorem dX11_bestChance_0 : decode cX11_bestChance 0 = .ok (.aload_n 0, 1) := by decide +kernel
theorem dX11_bestChance_1 : decode cX11_bestChance 1 = .ok (.iload_n 1, 1) := by decide +kernel
theorem dX11_bestChance_2 : decode cX11_bestChance 2 = .ok (.iconst 1, 1) := by decide +kernel
theorem dX11_bestChance_3 : decode cX11_bestChance 3 = .ok (.bipush 20, 2) := by decide +kernel
theorem dX11_bestChance_5 : decode cX11_bestChance 5 = .ok (.invokestatic 37, 3) := by decide +kernel
theorem dX11_bestChance_8 : decode cX11_bestChance 8 = .ok (.ifCond .ne 7, 3) := by decide +kernel
theorem dX11_bestChance_11 : decode cX11_bestChance 11 = .ok (.iconst 1, 1) := by decide +kernel
theorem dX11_bestChance_12 : decode cX11_bestChance 12 = .ok (.goto 4, 3) := by decide +kernel
theorem dX11_bestChance_15 : decode cX11_bestChance 15 = .ok (.iconst 0, 1) := by decide +kernel
theorem dX11_bestChance_16 : decode cX11_bestChance 16 = .ok (.iconst 1, 1) := by decide +kernel
theorem dX11_bestChance_17 : decode cX11_bestChance 17 = .ok (.invokevirtual 71, 3) := by decide +kernel
theorem dX11_bestChance_20 : decode cX11_bestChance 20 = .ok (.ifCond .eq 5, 3) := by decide +kernel
theorem dX11_bestChance_23 : decode cX11_bestChance 23 = .ok (.iconst 0, 1) := by decide +kernel
theorem dX11_bestChance_24 : decode cX11_bestChance 24 = .ok (.ireturn, 1) := by decide +kernel
theorem dX11_bestChance_25 : decode cX11_bestChance 25 = .ok (.iconst 0, 1) := by decide +kernel
theorem dX11_bestChance_26 : decode cX11_bestChance 26 = .ok (.istore_n 2, 1) := by decide +kernel
theorem dX11_bestChance_27 : decode cX11_bestChance 27 = .ok (.iconst 1, 1) := by decide +kernel
theorem dX11_bestChance_28 : decode cX11_bestChance 28 = .ok (.istore_n 3, 1) := by decide +kernel
theorem dX11_bestChance_29 : decode cX11_bestChance 29 = .ok (.iload_n 3, 1) := by decide +kernel
theorem dX11_bestChance_30 : decode cX11_bestChance 30 = .ok (.bipush 100, 2) := by decide +kernel
theorem dX11_bestChance_32 : decode cX11_bestChance 32 = .ok (.if_icmp .gt 25, 3) := by decide +kernel
theorem dX11_bestChance_35 : decode cX11_bestChance 35 = .ok (.iload_n 1, 1) := by decide +kernel
theorem dX11_bestChance_36 : decode cX11_bestChance 36 = .ok (.iload_n 3, 1) := by decide +kernel
theorem dX11_bestChance_37 : decode cX11_bestChance 37 = .ok (.invokestatic 295, 3) := by decide +kernel
theorem dX11_bestChance_40 : decode cX11_bestChance 40 = .ok (.iload_n 1, 1) := by decide +kernel
theorem dX11_bestChance_41 : decode cX11_bestChance 41 = .ok (.iload_n 2, 1) := by decide +kernel
theorem dX11_bestChance_42 : decode cX11_bestChance 42 = .ok (.invokestatic 295, 3) := by decide +kernel
theorem dX11_bestChance_45 : decode cX11_bestChance 45 = .ok (.dcmp .l, 1) := by decide +kernel
theorem dX11_bestChance_46 : decode cX11_bestChance 46 = .ok (.ifCond .le 5, 3) := by decide +kernel
theorem dX11_bestChance_49 : decode cX11_bestChance 49 = .ok (.iload_n 3, 1) := by decide +kernel
theorem dX11_bestChance_50 : decode cX11_bestChance 50 = .ok (.istore_n 2, 1) := by decide +kernel
theorem dX11_bestChance_51 : decode cX11_bestChance 51 = .ok (.iinc 3 1, 3) := by decide +kernel
theorem dX11_bestChance_54 : decode cX11_bestChance 54 = .ok (.goto (-25), 3) := by decide +kernel
theorem dX11_bestChance_57 : decode cX11_bestChance 57 = .ok (.iload_n 2, 1) := by decide +kernel
theorem dX11_bestChance_58 : decode cX11_bestChance 58 = .ok (.ireturn, 1) := by decide +kernel
theorem dX11_auction_0 : decode cX11_auction 0 = .ok (.aload_n 0, 1) := by decide +kernel
theorem dX11_auction_1 : decode cX11_auction 1 = .ok (.iload_n 1, 1) := by decide +kernel
theorem dX11_auction_2 : decode cX11_auction 2 = .ok (.iconst 0, 1) := by decide +kernel
theorem dX11_auction_3 : decode cX11_auction 3 = .ok (.bipush 6, 2) := by decide +kernel
theorem dX11_auction_5 : decode cX11_auction 5 = .ok (.invokestatic 37, 3) := by decide +kernel
theorem dX11_auction_8 : decode cX11_auction 8 = .ok (.ifCond .ne 7, 3) := by decide +kernel
theorem dX11_auction_11 : decode cX11_auction 11 = .ok (.iconst 1, 1) := by decide +kernel
theorem dX11_auction_12 : decode cX11_auction 12 = .ok (.goto 4, 3) := by decide +kernel
theorem dX11_auction_15 : decode cX11_auction 15 = .ok (.iconst 0, 1) := by decide +kernel
theorem dX11_auction_16 : decode cX11_auction 16 = .ok (.iconst 1, 1) := by decide +kernel
theorem dX11_auction_17 : decode cX11_auction 17 = .ok (.invokevirtual 71, 3) := by decide +kernel
theorem dX11_auction_20 : decode cX11_auction 20 = .ok (.ifCond .eq 7, 3) := by decide +kernel
theorem dX11_auction_23 : decode cX11_auction 23 = .ok (.iconst 0, 1) := by decide +kernel
theorem dX11_auction_24 : decode cX11_auction 24 = .ok (.goto 9, 3) := by decide +kernel
theorem dX11_auction_27 : decode cX11_auction 27 = .ok (.aload_n 0, 1) := by decide +kernel
theorem dX11_auction_28 : decode cX11_auction 28 = .ok (.invokevirtual 236, 3) := by decide +kernel
theorem dX11_auction_31 : decode cX11_auction 31 = .ok (.iload_n 1, 1) := by decide +kernel
theorem dX11_auction_32 : decode cX11_auction 32 = .ok (.iaload, 1) := by decide +kernel
theorem dX11_auction_33 : decode cX11_auction 33 = .ok (.ireturn, 1) := by decide +kernel
theorem dX11_isCover_0 : decode cX11_isCover 0 = .ok (.iconst 0, 1) := by decide +kernel
theorem dX11_isCover_1 : decode cX11_isCover 1 = .ok (.istore_n 2, 1) := by decide +kernel
theorem dX11_isCover_2 : decode cX11_isCover 2 = .ok (.iload_n 2, 1) := by decide +kernel
theorem dX11_isCover_3 : decode cX11_isCover 3 = .ok (.aload_n 0, 1) := by decide +kernel
theorem dX11_isCover_4 : decode cX11_isCover 4 = .ok (.getfield 16, 3) := by decide +kernel
theorem dX11_isCover_7 : decode cX11_isCover 7 = .ok (.invokevirtual 33, 3) := by decide +kernel
theorem dX11_isCover_10 : decode cX11_isCover 10 = .ok (.if_icmp .ge 69, 3) := by decide +kernel
theorem dX11_isCover_13 : decode cX11_isCover 13 = .ok (.iload_n 1, 1) := by decide +kernel
theorem dX11_isCover_14 : decode cX11_isCover 14 = .ok (.iload_n 2, 1) := by decide +kernel
theorem dX11_isCover_15 : decode cX11_isCover 15 = .ok (.invokestatic 147, 3) := by decide +kernel
theorem dX11_isCover_18 : decode cX11_isCover 18 = .ok (.istore_n 3, 1) := by decide +kernel
theorem dX11_isCover_19 : decode cX11_isCover 19 = .ok (.iconst 0, 1) := by decide +kernel
theorem dX11_isCover_20 : decode cX11_isCover 20 = .ok (.istore 4, 2) := by decide +kernel
theorem dX11_isCover_22 : decode cX11_isCover 22 = .ok (.iload 4, 2) := by decide +kernel
theorem dX11_isCover_24 : decode cX11_isCover 24 = .ok (.aload_n 0, 1) := by decide +kernel
theorem dX11_isCover_25 : decode cX11_isCover 25 = .ok (.getfield 16, 3) := by decide +kernel
theorem dX11_isCover_28 : decode cX11_isCover 28 = .ok (.invokevirtual 33, 3) := by decide +kernel
theorem dX11_isCover_31 : decode cX11_isCover 31 = .ok (.if_icmp .ge 36, 3) := by decide +kernel
theorem dX11_isCover_34 : decode cX11_isCover 34 = .ok (.iload_n 3, 1) := by decide +kernel
theorem dX11_isCover_35 : decode cX11_isCover 35 = .ok (.iload_n 1, 1) := by decide +kernel
theorem dX11_isCover_36 : decode cX11_isCover 36 = .ok (.iload 4, 2) := by decide +kernel
theorem dX11_isCover_38 : decode cX11_isCover 38 = .ok (.invokestatic 147, 3) := by decide +kernel
theorem dX11_isCover_41 : decode cX11_isCover 41 = .ok (.ifCond .eq 17, 3) := by decide +kernel
theorem dX11_isCover_44 : decode cX11_isCover 44 = .ok (.aload_n 0, 1) := by decide +kernel
theorem dX11_isCover_45 : decode cX11_isCover 45 = .ok (.iload_n 2, 1) := by decide +kernel
theorem dX11_isCover_46 : decode cX11_isCover 46 = .ok (.iload 4, 2) := by decide +kernel
theorem dX11_isCover_48 : decode cX11_isCover 48 = .ok (.invokevirtual 60, 3) := by decide +kernel
theorem dX11_isCover_51 : decode cX11_isCover 51 = .ok (.ifCond .eq 7, 3) := by decide +kernel
theorem dX11_isCover_54 : decode cX11_isCover 54 = .ok (.iconst 1, 1) := by decide +kernel
theorem dX11_isCover_55 : decode cX11_isCover 55 = .ok (.goto 4, 3) := by decide +kernel
theorem dX11_isCover_58 : decode cX11_isCover 58 = .ok (.iconst 0, 1) := by decide +kernel
theorem dX11_isCover_59 : decode cX11_isCover 59 = .ok (.ior, 1) := by decide +kernel
theorem dX11_isCover_60 : decode cX11_isCover 60 = .ok (.istore_n 3, 1) := by decide +kernel
theorem dX11_isCover_61 : decode cX11_isCover 61 = .ok (.iinc 4 1, 3) := by decide +kernel
theorem dX11_isCover_64 : decode cX11_isCover 64 = .ok (.goto (-42), 3) := by decide +kernel
theorem dX11_isCover_67 : decode cX11_isCover 67 = .ok (.iload_n 3, 1) := by decide +kernel
theorem dX11_isCover_68 : decode cX11_isCover 68 = .ok (.ifCond .ne 5, 3) := by decide +kernel
theorem dX11_isCover_71 : decode cX11_isCover 71 = .ok (.iconst 0, 1) := by decide +kernel
theorem dX11_isCover_72 : decode cX11_isCover 72 = .ok (.ireturn, 1) := by decide +kernel
theorem dX11_isCover_73 : decode cX11_isCover 73 = .ok (.iinc 2 1, 3) := by decide +kernel
theorem dX11_isCover_76 : decode cX11_isCover 76 = .ok (.goto (-74), 3) := by decide +kernel
theorem dX11_isCover_79 : decode cX11_isCover 79 = .ok (.iconst 1, 1) := by decide +kernel
theorem dX11_isCover_80 : decode cX11_isCover 80 = .ok (.ireturn, 1) := by decide +kernel
theorem dX11_coverNow_0 : decode cX11_coverNow 0 = .ok (.iconst 1, 1) := by decide +kernel
theorem dX11_coverNow_1 : decode cX11_coverNow 1 = .ok (.aload_n 0, 1) := by decide +kernel
theorem dX11_coverNow_2 : decode cX11_coverNow 2 = .ok (.getfield 16, 3) := by decide +kernel
theorem dX11_coverNow_5 : decode cX11_coverNow 5 = .ok (.invokevirtual 33, 3) := by decide +kernel
theorem dX11_coverNow_8 : decode cX11_coverNow 8 = .ok (.ishl, 1) := by decide +kernel
theorem dX11_coverNow_9 : decode cX11_coverNow 9 = .ok (.iconst 1, 1) := by decide +kernel
theorem dX11_coverNow_10 : decode cX11_coverNow 10 = .ok (.isub, 1) := by decide +kernel
theorem dX11_coverNow_11 : decode cX11_coverNow 11 = .ok (.istore_n 1, 1) := by decide +kernel
theorem dX11_coverNow_12 : decode cX11_coverNow 12 = .ok (.iload_n 1, 1) := by decide +kernel
theorem dX11_coverNow_13 : decode cX11_coverNow 13 = .ok (.istore_n 2, 1) := by decide +kernel
theorem dX11_coverNow_14 : decode cX11_coverNow 14 = .ok (.iload_n 2, 1) := by decide +kernel
theorem dX11_coverNow_15 : decode cX11_coverNow 15 = .ok (.ifCond .lt 30, 3) := by decide +kernel
theorem dX11_coverNow_18 : decode cX11_coverNow 18 = .ok (.aload_n 0, 1) := by decide +kernel
theorem dX11_coverNow_19 : decode cX11_coverNow 19 = .ok (.iload_n 2, 1) := by decide +kernel
theorem dX11_coverNow_20 : decode cX11_coverNow 20 = .ok (.invokevirtual 299, 3) := by decide +kernel
theorem dX11_coverNow_23 : decode cX11_coverNow 23 = .ok (.ifCond .eq 16, 3) := by decide +kernel
theorem dX11_coverNow_26 : decode cX11_coverNow 26 = .ok (.iload_n 2, 1) := by decide +kernel
theorem dX11_coverNow_27 : decode cX11_coverNow 27 = .ok (.invokestatic 93, 3) := by decide +kernel
theorem dX11_coverNow_30 : decode cX11_coverNow 30 = .ok (.iload_n 1, 1) := by decide +kernel
theorem dX11_coverNow_31 : decode cX11_coverNow 31 = .ok (.invokestatic 93, 3) := by decide +kernel
theorem dX11_coverNow_34 : decode cX11_coverNow 34 = .ok (.if_icmp .gt 5, 3) := by decide +kernel
theorem dX11_coverNow_37 : decode cX11_coverNow 37 = .ok (.iload_n 2, 1) := by decide +kernel
theorem dX11_coverNow_38 : decode cX11_coverNow 38 = .ok (.istore_n 1, 1) := by decide +kernel
theorem dX11_coverNow_39 : decode cX11_coverNow 39 = .ok (.iinc 2 (-1), 3) := by decide +kernel
theorem dX11_coverNow_42 : decode cX11_coverNow 42 = .ok (.goto (-28), 3) := by decide +kernel
theorem dX11_coverNow_45 : decode cX11_coverNow 45 = .ok (.iload_n 1, 1) := by decide +kernel
theorem dX11_coverNow_46 : decode cX11_coverNow 46 = .ok (.ireturn, 1) := by decide +kernel
theorem dX11_cover_0 : decode cX11_cover 0 = .ok (.aload_n 0, 1) := by decide +kernel
theorem dX11_cover_1 : decode cX11_cover 1 = .ok (.iconst 0, 1) := by decide +kernel
theorem dX11_cover_2 : decode cX11_cover 2 = .ok (.putfield 26, 3) := by decide +kernel
theorem dX11_cover_5 : decode cX11_cover 5 = .ok (.aload_n 0, 1) := by decide +kernel
theorem dX11_cover_6 : decode cX11_cover 6 = .ok (.invokevirtual 302, 3) := by decide +kernel
theorem dX11_cover_9 : decode cX11_cover 9 = .ok (.ireturn, 1) := by decide +kernel
theorem dX11_isWhole_0 : decode cX11_isWhole 0 = .ok (.iconst 0, 1) := by decide +kernel
theorem dX11_isWhole_1 : decode cX11_isWhole 1 = .ok (.istore_n 1, 1) := by decide +kernel
theorem dX11_isWhole_2 : decode cX11_isWhole 2 = .ok (.iload_n 1, 1) := by decide +kernel
theorem dX11_isWhole_3 : decode cX11_isWhole 3 = .ok (.aload_n 0, 1) := by decide +kernel
theorem dX11_isWhole_4 : decode cX11_isWhole 4 = .ok (.getfield 16, 3) := by decide +kernel
theorem dX11_isWhole_7 : decode cX11_isWhole 7 = .ok (.invokevirtual 33, 3) := by decide +kernel
theorem dX11_isWhole_10 : decode cX11_isWhole 10 = .ok (.if_icmp .ge 131, 3) := by decide +kernel
theorem dX11_isWhole_13 : decode cX11_isWhole 13 = .ok (.aload_n 0, 1) := by decide +kernel
theorem dX11_isWhole_14 : decode cX11_isWhole 14 = .ok (.getfield 16, 3) := by decide +kernel
theorem dX11_isWhole_17 : decode cX11_isWhole 17 = .ok (.iload_n 1, 1) := by decide +kernel
theorem dX11_isWhole_18 : decode cX11_isWhole 18 = .ok (.invokevirtual 41, 3) := by decide +kernel
theorem dX11_isWhole_21 : decode cX11_isWhole 21 = .ok (.checkcast 45, 3) := by decide +kernel
theorem dX11_isWhole_24 : decode cX11_isWhole 24 = .ok (.astore_n 2, 1) := by decide +kernel
theorem dX11_isWhole_25 : decode cX11_isWhole 25 = .ok (.aload_n 2, 1) := by decide +kernel
theorem dX11_isWhole_26 : decode cX11_isWhole 26 = .ok (.getfield 102, 3) := by decide +kernel
theorem dX11_isWhole_29 : decode cX11_isWhole 29 = .ok (.invokevirtual 33, 3) := by decide +kernel
theorem dX11_isWhole_32 : decode cX11_isWhole 32 = .ok (.iconst 4, 1) := by decide +kernel
theorem dX11_isWhole_33 : decode cX11_isWhole 33 = .ok (.if_icmp .gt 44, 3) := by decide +kernel
theorem dX11_isWhole_36 : decode cX11_isWhole 36 = .ok (.aload_n 2, 1) := by decide +kernel
theorem dX11_isWhole_37 : decode cX11_isWhole 37 = .ok (.invokevirtual 85, 3) := by decide +kernel
theorem dX11_isWhole_40 : decode cX11_isWhole 40 = .ok (.ifCond .eq 13, 3) := by decide +kernel
theorem dX11_isWhole_43 : decode cX11_isWhole 43 = .ok (.aload_n 2, 1) := by decide +kernel
theorem dX11_isWhole_44 : decode cX11_isWhole 44 = .ok (.getfield 102, 3) := by decide +kernel
theorem dX11_isWhole_47 : decode cX11_isWhole 47 = .ok (.invokevirtual 187, 3) := by decide +kernel
theorem dX11_isWhole_50 : decode cX11_isWhole 50 = .ok (.ifCond .ne 27, 3) := by decide +kernel
theorem dX11_isWhole_53 : decode cX11_isWhole 53 = .ok (.aload_n 2, 1) := by decide +kernel
theorem dX11_isWhole_54 : decode cX11_isWhole 54 = .ok (.getfield 138, 3) := by decide +kernel
theorem dX11_isWhole_57 : decode cX11_isWhole 57 = .ok (.iconst 0, 1) := by decide +kernel
theorem dX11_isWhole_58 : decode cX11_isWhole 58 = .ok (.iconst 3, 1) := by decide +kernel
theorem dX11_isWhole_59 : decode cX11_isWhole 59 = .ok (.invokestatic 37, 3) := by decide +kernel
theorem dX11_isWhole_62 : decode cX11_isWhole 62 = .ok (.ifCond .eq 15, 3) := by decide +kernel
theorem dX11_isWhole_65 : decode cX11_isWhole 65 = .ok (.aload_n 2, 1) := by decide +kernel
theorem dX11_isWhole_66 : decode cX11_isWhole 66 = .ok (.getfield 117, 3) := by decide +kernel
theorem dX11_isWhole_69 : decode cX11_isWhole 69 = .ok (.iconst 0, 1) := by decide +kernel
theorem dX11_isWhole_70 : decode cX11_isWhole 70 = .ok (.iconst 4, 1) := by decide +kernel
theorem dX11_isWhole_71 : decode cX11_isWhole 71 = .ok (.invokestatic 37, 3) := by decide +kernel
theorem dX11_isWhole_74 : decode cX11_isWhole 74 = .ok (.ifCond .ne 5, 3) := by decide +kernel
theorem dX11_isWhole_77 : decode cX11_isWhole 77 = .ok (.iconst 0, 1) := by decide +kernel
theorem dX11_isWhole_78 : decode cX11_isWhole 78 = .ok (.ireturn, 1) := by decide +kernel
theorem dX11_isWhole_79 : decode cX11_isWhole 79 = .ok (.iconst 0, 1) := by decide +kernel
theorem dX11_isWhole_80 : decode cX11_isWhole 80 = .ok (.istore_n 3, 1) := by decide +kernel
theorem dX11_isWhole_81 : decode cX11_isWhole 81 = .ok (.iload_n 3, 1) := by decide +kernel
theorem dX11_isWhole_82 : decode cX11_isWhole 82 = .ok (.aload_n 0, 1) := by decide +kernel
theorem dX11_isWhole_83 : decode cX11_isWhole 83 = .ok (.getfield 16, 3) := by decide +kernel
theorem dX11_isWhole_86 : decode cX11_isWhole 86 = .ok (.invokevirtual 33, 3) := by decide +kernel
theorem dX11_isWhole_89 : decode cX11_isWhole 89 = .ok (.if_icmp .ge 46, 3) := by decide +kernel
theorem dX11_isWhole_92 : decode cX11_isWhole 92 = .ok (.aload_n 2, 1) := by decide +kernel
theorem dX11_isWhole_93 : decode cX11_isWhole 93 = .ok (.getfield 126, 3) := by decide +kernel
theorem dX11_isWhole_96 : decode cX11_isWhole 96 = .ok (.iload_n 3, 1) := by decide +kernel
theorem dX11_isWhole_97 : decode cX11_isWhole 97 = .ok (.iaload, 1) := by decide +kernel
theorem dX11_isWhole_98 : decode cX11_isWhole 98 = .ok (.iconst (-1), 1) := by decide +kernel
theorem dX11_isWhole_99 : decode cX11_isWhole 99 = .ok (.if_icmp .eq 30, 3) := by decide +kernel
theorem dX11_isWhole_102 : decode cX11_isWhole 102 = .ok (.aload_n 2, 1) := by decide +kernel
theorem dX11_isWhole_103 : decode cX11_isWhole 103 = .ok (.getfield 126, 3) := by decide +kernel
theorem dX11_isWhole_106 : decode cX11_isWhole 106 = .ok (.iload_n 3, 1) := by decide +kernel
theorem dX11_isWhole_107 : decode cX11_isWhole 107 = .ok (.iaload, 1) := by decide +kernel
theorem dX11_isWhole_108 : decode cX11_isWhole 108 = .ok (.iload_n 1, 1) := by decide +kernel
theorem dX11_isWhole_109 : decode cX11_isWhole 109 = .ok (.if_icmp .eq 18, 3) := by decide +kernel
theorem dX11_isWhole_112 : decode cX11_isWhole 112 = .ok (.aload_n 2, 1) := by decide +kernel
theorem dX11_isWhole_113 : decode cX11_isWhole 113 = .ok (.getfield 209, 3) := by decide +kernel
theorem dX11_isWhole_116 : decode cX11_isWhole 116 = .ok (.iload_n 3, 1) := by decide +kernel
theorem dX11_isWhole_117 : decode cX11_isWhole 117 = .ok (.iaload, 1) := by decide +kernel
theorem dX11_isWhole_118 : decode cX11_isWhole 118 = .ok (.iconst 1, 1) := by decide +kernel
theorem dX11_isWhole_119 : decode cX11_isWhole 119 = .ok (.bipush 8, 2) := by decide +kernel
theorem dX11_isWhole_121 : decode cX11_isWhole 121 = .ok (.invokestatic 37, 3) := by decide +kernel
theorem dX11_isWhole_124 : decode cX11_isWhole 124 = .ok (.ifCond .ne 5, 3) := by decide +kernel
theorem dX11_isWhole_127 : decode cX11_isWhole 127 = .ok (.iconst 0, 1) := by decide +kernel
theorem dX11_isWhole_128 : decode cX11_isWhole 128 = .ok (.ireturn, 1) := by decide +kernel
theorem dX11_isWhole_129 : decode cX11_isWhole 129 = .ok (.iinc 3 1, 3) := by decide +kernel
theorem dX11_isWhole_132 : decode cX11_isWhole 132 = .ok (.goto (-51), 3) := by decide +kernel
theorem dX11_isWhole_135 : decode cX11_isWhole 135 = .ok (.iinc 1 1, 3) := by decide +kernel
theorem dX11_isWhole_138 : decode cX11_isWhole 138 = .ok (.goto (-136), 3) := by decide +kernel
theorem dX11_isWhole_141 : decode cX11_isWhole 141 = .ok (.aload_n 0, 1) := by decide +kernel
theorem dX11_isWhole_142 : decode cX11_isWhole 142 = .ok (.invokevirtual 236, 3) := by decide +kernel
theorem dX11_isWhole_145 : decode cX11_isWhole 145 = .ok (.astore_n 1, 1) := by decide +kernel
theorem dX11_isWhole_146 : decode cX11_isWhole 146 = .ok (.iconst 0, 1) := by decide +kernel
theorem dX11_isWhole_147 : decode cX11_isWhole 147 = .ok (.istore_n 2, 1) := by decide +kernel
theorem dX11_isWhole_148 : decode cX11_isWhole 148 = .ok (.iload_n 2, 1) := by decide +kernel
theorem dX11_isWhole_149 : decode cX11_isWhole 149 = .ok (.aload_n 0, 1) := by decide +kernel
theorem dX11_isWhole_150 : decode cX11_isWhole 150 = .ok (.getfield 23, 3) := by decide +kernel
theorem dX11_isWhole_153 : decode cX11_isWhole 153 = .ok (.invokevirtual 33, 3) := by decide +kernel
theorem dX11_isWhole_156 : decode cX11_isWhole 156 = .ok (.if_icmp .ge 54, 3) := by decide +kernel
theorem dX11_isWhole_159 : decode cX11_isWhole 159 = .ok (.aload_n 1, 1) := by decide +kernel
theorem dX11_isWhole_160 : decode cX11_isWhole 160 = .ok (.iconst 0, 1) := by decide +kernel
theorem dX11_isWhole_161 : decode cX11_isWhole 161 = .ok (.iaload, 1) := by decide +kernel
theorem dX11_isWhole_162 : decode cX11_isWhole 162 = .ok (.iload_n 2, 1) := by decide +kernel
theorem dX11_isWhole_163 : decode cX11_isWhole 163 = .ok (.invokestatic 147, 3) := by decide +kernel
theorem dX11_isWhole_166 : decode cX11_isWhole 166 = .ok (.ifCond .eq 38, 3) := by decide +kernel
theorem dX11_isWhole_169 : decode cX11_isWhole 169 = .ok (.aload_n 1, 1) := by decide +kernel
theorem dX11_isWhole_170 : decode cX11_isWhole 170 = .ok (.iconst 2, 1) := by decide +kernel
theorem dX11_isWhole_171 : decode cX11_isWhole 171 = .ok (.aload_n 0, 1) := by decide +kernel
theorem dX11_isWhole_172 : decode cX11_isWhole 172 = .ok (.getfield 23, 3) := by decide +kernel
theorem dX11_isWhole_175 : decode cX11_isWhole 175 = .ok (.iload_n 2, 1) := by decide +kernel
theorem dX11_isWhole_176 : decode cX11_isWhole 176 = .ok (.invokevirtual 41, 3) := by decide +kernel
theorem dX11_isWhole_179 : decode cX11_isWhole 179 = .ok (.checkcast 130, 3) := by decide +kernel
theorem dX11_isWhole_182 : decode cX11_isWhole 182 = .ok (.iconst 0, 1) := by decide +kernel
theorem dX11_isWhole_183 : decode cX11_isWhole 183 = .ok (.iaload, 1) := by decide +kernel
theorem dX11_isWhole_184 : decode cX11_isWhole 184 = .ok (.iadd, 1) := by decide +kernel
theorem dX11_isWhole_185 : decode cX11_isWhole 185 = .ok (.iaload, 1) := by decide +kernel
theorem dX11_isWhole_186 : decode cX11_isWhole 186 = .ok (.aload_n 0, 1) := by decide +kernel
theorem dX11_isWhole_187 : decode cX11_isWhole 187 = .ok (.getfield 23, 3) := by decide +kernel
theorem dX11_isWhole_190 : decode cX11_isWhole 190 = .ok (.iload_n 2, 1) := by decide +kernel
theorem dX11_isWhole_191 : decode cX11_isWhole 191 = .ok (.invokevirtual 41, 3) := by decide +kernel
theorem dX11_isWhole_194 : decode cX11_isWhole 194 = .ok (.checkcast 130, 3) := by decide +kernel
theorem dX11_isWhole_197 : decode cX11_isWhole 197 = .ok (.iconst 2, 1) := by decide +kernel
theorem dX11_isWhole_198 : decode cX11_isWhole 198 = .ok (.iaload, 1) := by decide +kernel
theorem dX11_isWhole_199 : decode cX11_isWhole 199 = .ok (.if_icmp .le 5, 3) := by decide +kernel
theorem dX11_isWhole_202 : decode cX11_isWhole 202 = .ok (.iconst 0, 1) := by decide +kernel
theorem dX11_isWhole_203 : decode cX11_isWhole 203 = .ok (.ireturn, 1) := by decide +kernel
theorem dX11_isWhole_204 : decode cX11_isWhole 204 = .ok (.iinc 2 1, 3) := by decide +kernel
theorem dX11_isWhole_207 : decode cX11_isWhole 207 = .ok (.goto (-59), 3) := by decide +kernel
theorem dX11_isWhole_210 : decode cX11_isWhole 210 = .ok (.aload_n 0, 1) := by decide +kernel
theorem dX11_isWhole_211 : decode cX11_isWhole 211 = .ok (.getfield 168, 3) := by decide +kernel
theorem dX11_isWhole_214 : decode cX11_isWhole 214 = .ok (.aload_n 0, 1) := by decide +kernel
theorem dX11_isWhole_215 : decode cX11_isWhole 215 = .ok (.getfield 20, 3) := by decide +kernel
theorem dX11_isWhole_218 : decode cX11_isWhole 218 = .ok (.invokevirtual 33, 3) := by decide +kernel
theorem dX11_isWhole_221 : decode cX11_isWhole 221 = .ok (.if_icmp .ne 16, 3) := by decide +kernel
theorem dX11_isWhole_224 : decode cX11_isWhole 224 = .ok (.aload_n 0, 1) := by decide +kernel
theorem dX11_isWhole_225 : decode cX11_isWhole 225 = .ok (.invokevirtual 278, 3) := by decide +kernel
theorem dX11_isWhole_228 : decode cX11_isWhole 228 = .ok (.dconst 1, 1) := by decide +kernel
theorem dX11_isWhole_229 : decode cX11_isWhole 229 = .ok (.dcmp .g, 1) := by decide +kernel
theorem dX11_isWhole_230 : decode cX11_isWhole 230 = .ok (.ifCond .gt 7, 3) := by decide +kernel
theorem dX11_isWhole_233 : decode cX11_isWhole 233 = .ok (.iconst 1, 1) := by decide +kernel
theorem dX11_isWhole_234 : decode cX11_isWhole 234 = .ok (.goto 4, 3) := by decide +kernel
theorem dX11_isWhole_237 : decode cX11_isWhole 237 = .ok (.iconst 0, 1) := by decide +kernel
theorem dX11_isWhole_238 : decode cX11_isWhole 238 = .ok (.ireturn, 1) := by decide +kernel
theorem dX11_isSound_0 : decode cX11_isSound 0 = .ok (.aload_n 0, 1) := by decide +kernel
theorem dX11_isSound_1 : decode cX11_isSound 1 = .ok (.iconst 0, 1) := by decide +kernel
theorem dX11_isSound_2 : decode cX11_isSound 2 = .ok (.putfield 26, 3) := by decide +kernel
theorem dX11_isSound_5 : decode cX11_isSound 5 = .ok (.aload_n 0, 1) := by decide +kernel
theorem dX11_isSound_6 : decode cX11_isSound 6 = .ok (.invokevirtual 305, 3) := by decide +kernel
theorem dX11_isSound_9 : decode cX11_isSound 9 = .ok (.ireturn, 1) := by decide +kernel
theorem dX11_add_0 : decode cX11_add 0 = .ok (.lload_n 0, 1) := by decide +kernel
theorem dX11_add_1 : decode cX11_add 1 = .ok (.ldc2_w 308, 3) := by decide +kernel
theorem dX11_add_4 : decode cX11_add 4 = .ok (.lmul, 1) := by decide +kernel
theorem dX11_add_5 : decode cX11_add 5 = .ok (.lload_n 2, 1) := by decide +kernel
theorem dX11_add_6 : decode cX11_add 6 = .ok (.ladd, 1) := by decide +kernel
theorem dX11_add_7 : decode cX11_add 7 = .ok (.lreturn, 1) := by decide +kernel
theorem dX11_digest_0 : decode cX11_digest 0 = .ok (.aload_n 0, 1) := by decide +kernel
theorem dX11_digest_1 : decode cX11_digest 1 = .ok (.iconst 0, 1) := by decide +kernel
theorem dX11_digest_2 : decode cX11_digest 2 = .ok (.putfield 26, 3) := by decide +kernel
theorem dX11_digest_5 : decode cX11_digest 5 = .ok (.ldc2_w 310, 3) := by decide +kernel
theorem dX11_digest_8 : decode cX11_digest 8 = .ok (.lstore_n 1, 1) := by decide +kernel
theorem dX11_digest_9 : decode cX11_digest 9 = .ok (.iconst 0, 1) := by decide +kernel
theorem dX11_digest_10 : decode cX11_digest 10 = .ok (.istore_n 3, 1) := by decide +kernel
theorem dX11_digest_11 : decode cX11_digest 11 = .ok (.iload_n 3, 1) := by decide +kernel
theorem dX11_digest_12 : decode cX11_digest 12 = .ok (.bipush 13, 2) := by decide +kernel
theorem dX11_digest_14 : decode cX11_digest 14 = .ok (.if_icmp .ge 20, 3) := by decide +kernel
theorem dX11_digest_17 : decode cX11_digest 17 = .ok (.lload_n 1, 1) := by decide +kernel
theorem dX11_digest_18 : decode cX11_digest 18 = .ok (.aload_n 0, 1) := by decide +kernel
theorem dX11_digest_19 : decode cX11_digest 19 = .ok (.iload_n 3, 1) := by decide +kernel
theorem dX11_digest_20 : decode cX11_digest 20 = .ok (.invokevirtual 275, 3) := by decide +kernel
theorem dX11_digest_23 : decode cX11_digest 23 = .ok (.i2l, 1) := by decide +kernel
theorem dX11_digest_24 : decode cX11_digest 24 = .ok (.invokestatic 312, 3) := by decide +kernel
theorem dX11_digest_27 : decode cX11_digest 27 = .ok (.lstore_n 1, 1) := by decide +kernel
theorem dX11_digest_28 : decode cX11_digest 28 = .ok (.iinc 3 1, 3) := by decide +kernel
theorem dX11_digest_31 : decode cX11_digest 31 = .ok (.goto (-20), 3) := by decide +kernel
theorem dX11_digest_34 : decode cX11_digest 34 = .ok (.iconst 0, 1) := by decide +kernel
theorem dX11_digest_35 : decode cX11_digest 35 = .ok (.istore_n 3, 1) := by decide +kernel
theorem dX11_digest_36 : decode cX11_digest 36 = .ok (.iload_n 3, 1) := by decide +kernel
theorem dX11_digest_37 : decode cX11_digest 37 = .ok (.aload_n 0, 1) := by decide +kernel
theorem dX11_digest_38 : decode cX11_digest 38 = .ok (.getfield 16, 3) := by decide +kernel
theorem dX11_digest_41 : decode cX11_digest 41 = .ok (.invokevirtual 33, 3) := by decide +kernel
theorem dX11_digest_44 : decode cX11_digest 44 = .ok (.if_icmp .ge 124, 3) := by decide +kernel
theorem dX11_digest_47 : decode cX11_digest 47 = .ok (.iconst 0, 1) := by decide +kernel
theorem dX11_digest_48 : decode cX11_digest 48 = .ok (.istore 4, 2) := by decide +kernel
theorem dX11_digest_50 : decode cX11_digest 50 = .ok (.iload 4, 2) := by decide +kernel
theorem dX11_digest_52 : decode cX11_digest 52 = .ok (.bipush 16, 2) := by decide +kernel
theorem dX11_digest_54 : decode cX11_digest 54 = .ok (.if_icmp .ge 22, 3) := by decide +kernel
theorem dX11_digest_57 : decode cX11_digest 57 = .ok (.lload_n 1, 1) := by decide +kernel
theorem dX11_digest_58 : decode cX11_digest 58 = .ok (.aload_n 0, 1) := by decide +kernel
theorem dX11_digest_59 : decode cX11_digest 59 = .ok (.iload_n 3, 1) := by decide +kernel
theorem dX11_digest_60 : decode cX11_digest 60 = .ok (.iload 4, 2) := by decide +kernel
theorem dX11_digest_62 : decode cX11_digest 62 = .ok (.invokevirtual 254, 3) := by decide +kernel
theorem dX11_digest_65 : decode cX11_digest 65 = .ok (.i2l, 1) := by decide +kernel
theorem dX11_digest_66 : decode cX11_digest 66 = .ok (.invokestatic 312, 3) := by decide +kernel
theorem dX11_digest_69 : decode cX11_digest 69 = .ok (.lstore_n 1, 1) := by decide +kernel
theorem dX11_digest_70 : decode cX11_digest 70 = .ok (.iinc 4 1, 3) := by decide +kernel
theorem dX11_digest_73 : decode cX11_digest 73 = .ok (.goto (-23), 3) := by decide +kernel
theorem dX11_digest_76 : decode cX11_digest 76 = .ok (.iconst 0, 1) := by decide +kernel
theorem dX11_digest_77 : decode cX11_digest 77 = .ok (.istore 4, 2) := by decide +kernel
theorem dX11_digest_79 : decode cX11_digest 79 = .ok (.iload 4, 2) := by decide +kernel
theorem dX11_digest_81 : decode cX11_digest 81 = .ok (.iconst 5, 1) := by decide +kernel
theorem dX11_digest_82 : decode cX11_digest 82 = .ok (.if_icmp .ge 23, 3) := by decide +kernel
theorem dX11_digest_85 : decode cX11_digest 85 = .ok (.lload_n 1, 1) := by decide +kernel
theorem dX11_digest_86 : decode cX11_digest 86 = .ok (.aload_n 0, 1) := by decide +kernel
theorem dX11_digest_87 : decode cX11_digest 87 = .ok (.iload_n 3, 1) := by decide +kernel
theorem dX11_digest_88 : decode cX11_digest 88 = .ok (.iconst 0, 1) := by decide +kernel
theorem dX11_digest_89 : decode cX11_digest 89 = .ok (.iload 4, 2) := by decide +kernel
theorem dX11_digest_91 : decode cX11_digest 91 = .ok (.invokevirtual 257, 3) := by decide +kernel
theorem dX11_digest_94 : decode cX11_digest 94 = .ok (.i2l, 1) := by decide +kernel
theorem dX11_digest_95 : decode cX11_digest 95 = .ok (.invokestatic 312, 3) := by decide +kernel
theorem dX11_digest_98 : decode cX11_digest 98 = .ok (.lstore_n 1, 1) := by decide +kernel
theorem dX11_digest_99 : decode cX11_digest 99 = .ok (.iinc 4 1, 3) := by decide +kernel
theorem dX11_digest_102 : decode cX11_digest 102 = .ok (.goto (-23), 3) := by decide +kernel
theorem dX11_digest_105 : decode cX11_digest 105 = .ok (.iconst 0, 1) := by decide +kernel
theorem dX11_digest_106 : decode cX11_digest 106 = .ok (.istore 4, 2) := by decide +kernel
theorem dX11_digest_108 : decode cX11_digest 108 = .ok (.iload 4, 2) := by decide +kernel
theorem dX11_digest_110 : decode cX11_digest 110 = .ok (.aload_n 0, 1) := by decide +kernel
theorem dX11_digest_111 : decode cX11_digest 111 = .ok (.getfield 16, 3) := by decide +kernel
theorem dX11_digest_114 : decode cX11_digest 114 = .ok (.invokevirtual 33, 3) := by decide +kernel
theorem dX11_digest_117 : decode cX11_digest 117 = .ok (.if_icmp .ge 45, 3) := by decide +kernel
theorem dX11_digest_120 : decode cX11_digest 120 = .ok (.iconst 0, 1) := by decide +kernel
theorem dX11_digest_121 : decode cX11_digest 121 = .ok (.istore 5, 2) := by decide +kernel
theorem dX11_digest_123 : decode cX11_digest 123 = .ok (.iload 5, 2) := by decide +kernel
theorem dX11_digest_125 : decode cX11_digest 125 = .ok (.iconst 4, 1) := by decide +kernel
theorem dX11_digest_126 : decode cX11_digest 126 = .ok (.if_icmp .ge 30, 3) := by decide +kernel
theorem dX11_digest_129 : decode cX11_digest 129 = .ok (.iload 4, 2) := by decide +kernel
theorem dX11_digest_131 : decode cX11_digest 131 = .ok (.iload_n 3, 1) := by decide +kernel
theorem dX11_digest_132 : decode cX11_digest 132 = .ok (.if_icmp .eq 24, 3) := by decide +kernel
theorem dX11_digest_135 : decode cX11_digest 135 = .ok (.lload_n 1, 1) := by decide +kernel
theorem dX11_digest_136 : decode cX11_digest 136 = .ok (.aload_n 0, 1) := by decide +kernel
theorem dX11_digest_137 : decode cX11_digest 137 = .ok (.iload_n 3, 1) := by decide +kernel
theorem dX11_digest_138 : decode cX11_digest 138 = .ok (.iload 4, 2) := by decide +kernel
theorem dX11_digest_140 : decode cX11_digest 140 = .ok (.iload 5, 2) := by decide +kernel
theorem dX11_digest_142 : decode cX11_digest 142 = .ok (.invokevirtual 269, 3) := by decide +kernel
theorem dX11_digest_145 : decode cX11_digest 145 = .ok (.i2l, 1) := by decide +kernel
theorem dX11_digest_146 : decode cX11_digest 146 = .ok (.invokestatic 312, 3) := by decide +kernel
theorem dX11_digest_149 : decode cX11_digest 149 = .ok (.lstore_n 1, 1) := by decide +kernel
theorem dX11_digest_150 : decode cX11_digest 150 = .ok (.iinc 5 1, 3) := by decide +kernel
theorem dX11_digest_153 : decode cX11_digest 153 = .ok (.goto (-30), 3) := by decide +kernel
theorem dX11_digest_156 : decode cX11_digest 156 = .ok (.iinc 4 1, 3) := by decide +kernel
theorem dX11_digest_159 : decode cX11_digest 159 = .ok (.goto (-51), 3) := by decide +kernel
theorem dX11_digest_162 : decode cX11_digest 162 = .ok (.iinc 3 1, 3) := by decide +kernel
theorem dX11_digest_165 : decode cX11_digest 165 = .ok (.goto (-129), 3) := by decide +kernel
theorem dX11_digest_168 : decode cX11_digest 168 = .ok (.lload_n 1, 1) := by decide +kernel
theorem dX11_digest_169 : decode cX11_digest 169 = .ok (.ldc2_w 315, 3) := by decide +kernel
theorem dX11_digest_172 : decode cX11_digest 172 = .ok (.aload_n 0, 1) := by decide +kernel
theorem dX11_digest_173 : decode cX11_digest 173 = .ok (.invokevirtual 278, 3) := by decide +kernel
theorem dX11_digest_176 : decode cX11_digest 176 = .ok (.dmul, 1) := by decide +kernel
theorem dX11_digest_177 : decode cX11_digest 177 = .ok (.d2l, 1) := by decide +kernel
theorem dX11_digest_178 : decode cX11_digest 178 = .ok (.invokestatic 312, 3) := by decide +kernel
theorem dX11_digest_181 : decode cX11_digest 181 = .ok (.lstore_n 1, 1) := by decide +kernel
theorem dX11_digest_182 : decode cX11_digest 182 = .ok (.aload_n 0, 1) := by decide +kernel
theorem dX11_digest_183 : decode cX11_digest 183 = .ok (.invokevirtual 236, 3) := by decide +kernel
theorem dX11_digest_186 : decode cX11_digest 186 = .ok (.astore_n 3, 1) := by decide +kernel
theorem dX11_digest_187 : decode cX11_digest 187 = .ok (.aload_n 3, 1) := by decide +kernel
theorem dX11_digest_188 : decode cX11_digest 188 = .ok (.arraylength, 1) := by decide +kernel
theorem dX11_digest_189 : decode cX11_digest 189 = .ok (.istore 4, 2) := by decide +kernel
theorem dX11_digest_191 : decode cX11_digest 191 = .ok (.iconst 0, 1) := by decide +kernel
theorem dX11_digest_192 : decode cX11_digest 192 = .ok (.istore 5, 2) := by decide +kernel
theorem dX11_digest_194 : decode cX11_digest 194 = .ok (.iload 5, 2) := by decide +kernel
theorem dX11_digest_196 : decode cX11_digest 196 = .ok (.iload 4, 2) := by decide +kernel
theorem dX11_digest_198 : decode cX11_digest 198 = .ok (.if_icmp .ge 23, 3) := by decide +kernel
theorem dX11_digest_201 : decode cX11_digest 201 = .ok (.aload_n 3, 1) := by decide +kernel
theorem dX11_digest_202 : decode cX11_digest 202 = .ok (.iload 5, 2) := by decide +kernel
theorem dX11_digest_204 : decode cX11_digest 204 = .ok (.iaload, 1) := by decide +kernel
theorem dX11_digest_205 : decode cX11_digest 205 = .ok (.istore 6, 2) := by decide +kernel
theorem dX11_digest_207 : decode cX11_digest 207 = .ok (.lload_n 1, 1) := by decide +kernel
theorem dX11_digest_208 : decode cX11_digest 208 = .ok (.iload 6, 2) := by decide +kernel
theorem dX11_digest_210 : decode cX11_digest 210 = .ok (.i2l, 1) := by decide +kernel
theorem dX11_digest_211 : decode cX11_digest 211 = .ok (.invokestatic 312, 3) := by decide +kernel
theorem dX11_digest_214 : decode cX11_digest 214 = .ok (.lstore_n 1, 1) := by decide +kernel
theorem dX11_digest_215 : decode cX11_digest 215 = .ok (.iinc 5 1, 3) := by decide +kernel
theorem dX11_digest_218 : decode cX11_digest 218 = .ok (.goto (-24), 3) := by decide +kernel
theorem dX11_digest_221 : decode cX11_digest 221 = .ok (.lload_n 1, 1) := by decide +kernel
theorem dX11_digest_222 : decode cX11_digest 222 = .ok (.aload_n 0, 1) := by decide +kernel
theorem dX11_digest_223 : decode cX11_digest 223 = .ok (.invokevirtual 302, 3) := by decide +kernel
theorem dX11_digest_226 : decode cX11_digest 226 = .ok (.i2l, 1) := by decide +kernel
theorem dX11_digest_227 : decode cX11_digest 227 = .ok (.invokestatic 312, 3) := by decide +kernel
theorem dX11_digest_230 : decode cX11_digest 230 = .ok (.lstore_n 1, 1) := by decide +kernel
theorem dX11_digest_231 : decode cX11_digest 231 = .ok (.lload_n 1, 1) := by decide +kernel
theorem dX11_digest_232 : decode cX11_digest 232 = .ok (.aload_n 0, 1) := by decide +kernel
theorem dX11_digest_233 : decode cX11_digest 233 = .ok (.invokevirtual 305, 3) := by decide +kernel
theorem dX11_digest_236 : decode cX11_digest 236 = .ok (.invokestatic 67, 3) := by decide +kernel
theorem dX11_digest_239 : decode cX11_digest 239 = .ok (.i2l, 1) := by decide +kernel
theorem dX11_digest_240 : decode cX11_digest 240 = .ok (.invokestatic 312, 3) := by decide +kernel
theorem dX11_digest_243 : decode cX11_digest 243 = .ok (.lreturn, 1) := by decide +kernel
theorem dJ5_init_d00df_0 : decode cJ5_init_d00df 0 = .ok (.aload_n 0, 1) := by decide +kernel
theorem dJ5_init_d00df_1 : decode cJ5_init_d00df 1 = .ok (.invokespecial 3, 3) := by decide +kernel
theorem dJ5_init_d00df_4 : decode cJ5_init_d00df 4 = .ok (.getstatic 18, 3) := by decide +kernel
theorem dJ5_init_d00df_7 : decode cJ5_init_d00df 7 = .ok (.ifCond .eq 18, 3) := by decide +kernel
theorem dJ5_init_d00df_10 : decode cJ5_init_d00df 10 = .ok (.aload_n 0, 1) := by decide +kernel
theorem dJ5_init_d00df_11 : decode cJ5_init_d00df 11 = .ok (.iload_n 1, 1) := by decide +kernel
theorem dJ5_init_d00df_12 : decode cJ5_init_d00df 12 = .ok (.newarray .byte, 2) := by decide +kernel
theorem dJ5_init_d00df_14 : decode cJ5_init_d00df 14 = .ok (.putfield 15, 3) := by decide +kernel
theorem dJ5_init_d00df_17 : decode cJ5_init_d00df 17 = .ok (.aload_n 0, 1) := by decide +kernel
theorem dJ5_init_d00df_18 : decode cJ5_init_d00df 18 = .ok (.iconst 0, 1) := by decide +kernel
theorem dJ5_init_d00df_19 : decode cJ5_init_d00df 19 = .ok (.putfield 22, 3) := by decide +kernel
theorem dJ5_init_d00df_22 : decode cJ5_init_d00df 22 = .ok (.goto 16, 3) := by decide +kernel
theorem dJ5_init_d00df_25 : decode cJ5_init_d00df 25 = .ok (.aload_n 0, 1) := by decide +kernel
theorem dJ5_init_d00df_26 : decode cJ5_init_d00df 26 = .ok (.iload_n 1, 1) := by decide +kernel
theorem dJ5_init_d00df_27 : decode cJ5_init_d00df 27 = .ok (.invokestatic 26, 3) := by decide +kernel
theorem dJ5_init_d00df_30 : decode cJ5_init_d00df 30 = .ok (.putfield 15, 3) := by decide +kernel
theorem dJ5_init_d00df_33 : decode cJ5_init_d00df 33 = .ok (.aload_n 0, 1) := by decide +kernel
theorem dJ5_init_d00df_34 : decode cJ5_init_d00df 34 = .ok (.iconst 1, 1) := by decide +kernel
theorem dJ5_init_d00df_35 : decode cJ5_init_d00df 35 = .ok (.putfield 22, 3) := by decide +kernel
theorem dJ5_init_d00df_38 : decode cJ5_init_d00df 38 = .ok (.return_, 1) := by decide +kernel
theorem dJ5_length_8abf5_0 : decode cJ5_length_8abf5 0 = .ok (.aload_n 0, 1) := by decide +kernel
theorem dJ5_length_8abf5_1 : decode cJ5_length_8abf5 1 = .ok (.getfield 79, 3) := by decide +kernel
theorem dJ5_length_8abf5_4 : decode cJ5_length_8abf5 4 = .ok (.ireturn, 1) := by decide +kernel
theorem dJ5_ensureCapacityInternal_d00df_0 : decode cJ5_ensureCapacityInternal_d00df 0 = .ok (.aload_n 0, 1) := by decide +kernel
theorem dJ5_ensureCapacityInternal_d00df_1 : decode cJ5_ensureCapacityInternal_d00df 1 = .ok (.getfield 15, 3) := by decide +kernel
theorem dJ5_ensureCapacityInternal_d00df_4 : decode cJ5_ensureCapacityInternal_d00df 4 = .ok (.arraylength, 1) := by decide +kernel
theorem dJ5_ensureCapacityInternal_d00df_5 : decode cJ5_ensureCapacityInternal_d00df 5 = .ok (.aload_n 0, 1) := by decide +kernel
theorem dJ5_ensureCapacityInternal_d00df_6 : decode cJ5_ensureCapacityInternal_d00df 6 = .ok (.getfield 22, 3) := by decide +kernel
theorem dJ5_ensureCapacityInternal_d00df_9 : decode cJ5_ensureCapacityInternal_d00df 9 = .ok (.ishr, 1) := by decide +kernel
theorem dJ5_ensureCapacityInternal_d00df_10 : decode cJ5_ensureCapacityInternal_d00df 10 = .ok (.istore_n 2, 1) := by decide +kernel
theorem dJ5_ensureCapacityInternal_d00df_11 : decode cJ5_ensureCapacityInternal_d00df 11 = .ok (.iload_n 1, 1) := by decide +kernel
theorem dJ5_ensureCapacityInternal_d00df_12 : decode cJ5_ensureCapacityInternal_d00df 12 = .ok (.iload_n 2, 1) := by decide +kernel
theorem dJ5_ensureCapacityInternal_d00df_13 : decode cJ5_ensureCapacityInternal_d00df 13 = .ok (.isub, 1) := by decide +kernel
theorem dJ5_ensureCapacityInternal_d00df_14 : decode cJ5_ensureCapacityInternal_d00df 14 = .ok (.ifCond .le 24, 3) := by decide +kernel
theorem dJ5_ensureCapacityInternal_d00df_17 : decode cJ5_ensureCapacityInternal_d00df 17 = .ok (.aload_n 0, 1) := by decide +kernel
theorem dJ5_ensureCapacityInternal_d00df_18 : decode cJ5_ensureCapacityInternal_d00df 18 = .ok (.aload_n 0, 1) := by decide +kernel
theorem dJ5_ensureCapacityInternal_d00df_19 : decode cJ5_ensureCapacityInternal_d00df 19 = .ok (.getfield 15, 3) := by decide +kernel
theorem dJ5_ensureCapacityInternal_d00df_22 : decode cJ5_ensureCapacityInternal_d00df 22 = .ok (.aload_n 0, 1) := by decide +kernel
theorem dJ5_ensureCapacityInternal_d00df_23 : decode cJ5_ensureCapacityInternal_d00df 23 = .ok (.iload_n 1, 1) := by decide +kernel
theorem dJ5_ensureCapacityInternal_d00df_24 : decode cJ5_ensureCapacityInternal_d00df 24 = .ok (.invokevirtual 104, 3) := by decide +kernel
theorem dJ5_ensureCapacityInternal_d00df_27 : decode cJ5_ensureCapacityInternal_d00df 27 = .ok (.aload_n 0, 1) := by decide +kernel
theorem dJ5_ensureCapacityInternal_d00df_28 : decode cJ5_ensureCapacityInternal_d00df 28 = .ok (.getfield 22, 3) := by decide +kernel
theorem dJ5_ensureCapacityInternal_d00df_31 : decode cJ5_ensureCapacityInternal_d00df 31 = .ok (.ishl, 1) := by decide +kernel
theorem dJ5_ensureCapacityInternal_d00df_32 : decode cJ5_ensureCapacityInternal_d00df 32 = .ok (.invokestatic 108, 3) := by decide +kernel
theorem dJ5_ensureCapacityInternal_d00df_35 : decode cJ5_ensureCapacityInternal_d00df 35 = .ok (.putfield 15, 3) := by decide +kernel
theorem dJ5_ensureCapacityInternal_d00df_38 : decode cJ5_ensureCapacityInternal_d00df 38 = .ok (.return_, 1) := by decide +kernel
theorem dJ5_newCapacity_0f7a4_0 : decode cJ5_newCapacity_0f7a4 0 = .ok (.aload_n 0, 1) := by decide +kernel
theorem dJ5_newCapacity_0f7a4_1 : decode cJ5_newCapacity_0f7a4 1 = .ok (.getfield 15, 3) := by decide +kernel
theorem dJ5_newCapacity_0f7a4_4 : decode cJ5_newCapacity_0f7a4 4 = .ok (.arraylength, 1) := by decide +kernel
theorem dJ5_newCapacity_0f7a4_5 : decode cJ5_newCapacity_0f7a4 5 = .ok (.istore_n 2, 1) := by decide +kernel
theorem dJ5_newCapacity_0f7a4_6 : decode cJ5_newCapacity_0f7a4 6 = .ok (.iload_n 1, 1) := by decide +kernel
theorem dJ5_newCapacity_0f7a4_7 : decode cJ5_newCapacity_0f7a4 7 = .ok (.aload_n 0, 1) := by decide +kernel
theorem dJ5_newCapacity_0f7a4_8 : decode cJ5_newCapacity_0f7a4 8 = .ok (.getfield 22, 3) := by decide +kernel
theorem dJ5_newCapacity_0f7a4_11 : decode cJ5_newCapacity_0f7a4 11 = .ok (.ishl, 1) := by decide +kernel
theorem dJ5_newCapacity_0f7a4_12 : decode cJ5_newCapacity_0f7a4 12 = .ok (.istore_n 3, 1) := by decide +kernel
theorem dJ5_newCapacity_0f7a4_13 : decode cJ5_newCapacity_0f7a4 13 = .ok (.iload_n 3, 1) := by decide +kernel
theorem dJ5_newCapacity_0f7a4_14 : decode cJ5_newCapacity_0f7a4 14 = .ok (.iload_n 2, 1) := by decide +kernel
theorem dJ5_newCapacity_0f7a4_15 : decode cJ5_newCapacity_0f7a4 15 = .ok (.isub, 1) := by decide +kernel
theorem dJ5_newCapacity_0f7a4_16 : decode cJ5_newCapacity_0f7a4 16 = .ok (.istore 4, 2) := by decide +kernel
theorem dJ5_newCapacity_0f7a4_18 : decode cJ5_newCapacity_0f7a4 18 = .ok (.iload_n 2, 1) := by decide +kernel
theorem dJ5_newCapacity_0f7a4_19 : decode cJ5_newCapacity_0f7a4 19 = .ok (.iload 4, 2) := by decide +kernel
theorem dJ5_newCapacity_0f7a4_21 : decode cJ5_newCapacity_0f7a4 21 = .ok (.iload_n 2, 1) := by decide +kernel
theorem dJ5_newCapacity_0f7a4_22 : decode cJ5_newCapacity_0f7a4 22 = .ok (.iconst 2, 1) := by decide +kernel
theorem dJ5_newCapacity_0f7a4_23 : decode cJ5_newCapacity_0f7a4 23 = .ok (.aload_n 0, 1) := by decide +kernel
theorem dJ5_newCapacity_0f7a4_24 : decode cJ5_newCapacity_0f7a4 24 = .ok (.getfield 22, 3) := by decide +kernel
theorem dJ5_newCapacity_0f7a4_27 : decode cJ5_newCapacity_0f7a4 27 = .ok (.ishl, 1) := by decide +kernel
theorem dJ5_newCapacity_0f7a4_28 : decode cJ5_newCapacity_0f7a4 28 = .ok (.iadd, 1) := by decide +kernel
theorem dJ5_newCapacity_0f7a4_29 : decode cJ5_newCapacity_0f7a4 29 = .ok (.invokestatic 114, 3) := by decide +kernel
theorem dJ5_newCapacity_0f7a4_32 : decode cJ5_newCapacity_0f7a4 32 = .ok (.istore 5, 2) := by decide +kernel
theorem dJ5_newCapacity_0f7a4_34 : decode cJ5_newCapacity_0f7a4 34 = .ok (.iload 5, 2) := by decide +kernel
theorem dJ5_newCapacity_0f7a4_36 : decode cJ5_newCapacity_0f7a4 36 = .ok (.ldc 39, 2) := by decide +kernel
theorem dJ5_newCapacity_0f7a4_38 : decode cJ5_newCapacity_0f7a4 38 = .ok (.if_icmp .ne 13, 3) := by decide +kernel
theorem dJ5_newCapacity_0f7a4_41 : decode cJ5_newCapacity_0f7a4 41 = .ok (.new 120, 3) := by decide +kernel
theorem dJ5_newCapacity_0f7a4_44 : decode cJ5_newCapacity_0f7a4 44 = .ok (.dup, 1) := by decide +kernel
theorem dJ5_newCapacity_0f7a4_45 : decode cJ5_newCapacity_0f7a4 45 = .ok (.ldc 122, 2) := by decide +kernel
theorem dJ5_newCapacity_0f7a4_47 : decode cJ5_newCapacity_0f7a4 47 = .ok (.invokespecial 124, 3) := by decide +kernel
theorem dJ5_newCapacity_0f7a4_50 : decode cJ5_newCapacity_0f7a4 50 = .ok (.athrow, 1) := by decide +kernel
theorem dJ5_newCapacity_0f7a4_51 : decode cJ5_newCapacity_0f7a4 51 = .ok (.iload 5, 2) := by decide +kernel
theorem dJ5_newCapacity_0f7a4_53 : decode cJ5_newCapacity_0f7a4 53 = .ok (.aload_n 0, 1) := by decide +kernel
theorem dJ5_newCapacity_0f7a4_54 : decode cJ5_newCapacity_0f7a4 54 = .ok (.getfield 22, 3) := by decide +kernel
theorem dJ5_newCapacity_0f7a4_57 : decode cJ5_newCapacity_0f7a4 57 = .ok (.ishr, 1) := by decide +kernel
theorem dJ5_newCapacity_0f7a4_58 : decode cJ5_newCapacity_0f7a4 58 = .ok (.ireturn, 1) := by decide +kernel
theorem dJ5_inflate_da8c8_0 : decode cJ5_inflate_da8c8 0 = .ok (.aload_n 0, 1) := by decide +kernel
theorem dJ5_inflate_da8c8_1 : decode cJ5_inflate_da8c8 1 = .ok (.invokevirtual 83, 3) := by decide +kernel
theorem dJ5_inflate_da8c8_4 : decode cJ5_inflate_da8c8 4 = .ok (.ifCond .ne 4, 3) := by decide +kernel
theorem dJ5_inflate_da8c8_7 : decode cJ5_inflate_da8c8 7 = .ok (.return_, 1) := by decide +kernel
theorem dJ5_inflate_da8c8_8 : decode cJ5_inflate_da8c8 8 = .ok (.aload_n 0, 1) := by decide +kernel
theorem dJ5_inflate_da8c8_9 : decode cJ5_inflate_da8c8 9 = .ok (.getfield 15, 3) := by decide +kernel
theorem dJ5_inflate_da8c8_12 : decode cJ5_inflate_da8c8 12 = .ok (.arraylength, 1) := by decide +kernel
theorem dJ5_inflate_da8c8_13 : decode cJ5_inflate_da8c8 13 = .ok (.invokestatic 26, 3) := by decide +kernel
theorem dJ5_inflate_da8c8_16 : decode cJ5_inflate_da8c8 16 = .ok (.astore_n 1, 1) := by decide +kernel
theorem dJ5_inflate_da8c8_17 : decode cJ5_inflate_da8c8 17 = .ok (.aload_n 0, 1) := by decide +kernel
theorem dJ5_inflate_da8c8_18 : decode cJ5_inflate_da8c8 18 = .ok (.getfield 15, 3) := by decide +kernel
theorem dJ5_inflate_da8c8_21 : decode cJ5_inflate_da8c8 21 = .ok (.iconst 0, 1) := by decide +kernel
theorem dJ5_inflate_da8c8_22 : decode cJ5_inflate_da8c8 22 = .ok (.aload_n 1, 1) := by decide +kernel
theorem dJ5_inflate_da8c8_23 : decode cJ5_inflate_da8c8 23 = .ok (.iconst 0, 1) := by decide +kernel
theorem dJ5_inflate_da8c8_24 : decode cJ5_inflate_da8c8 24 = .ok (.aload_n 0, 1) := by decide +kernel
theorem dJ5_inflate_da8c8_25 : decode cJ5_inflate_da8c8 25 = .ok (.getfield 79, 3) := by decide +kernel
theorem dJ5_inflate_da8c8_28 : decode cJ5_inflate_da8c8 28 = .ok (.invokestatic 125, 3) := by decide +kernel
theorem dJ5_inflate_da8c8_31 : decode cJ5_inflate_da8c8 31 = .ok (.aload_n 0, 1) := by decide +kernel
theorem dJ5_inflate_da8c8_32 : decode cJ5_inflate_da8c8 32 = .ok (.aload_n 1, 1) := by decide +kernel
theorem dJ5_inflate_da8c8_33 : decode cJ5_inflate_da8c8 33 = .ok (.putfield 15, 3) := by decide +kernel
theorem dJ5_inflate_da8c8_36 : decode cJ5_inflate_da8c8 36 = .ok (.aload_n 0, 1) := by decide +kernel
theorem dJ5_inflate_da8c8_37 : decode cJ5_inflate_da8c8 37 = .ok (.iconst 1, 1) := by decide +kernel
theorem dJ5_inflate_da8c8_38 : decode cJ5_inflate_da8c8 38 = .ok (.putfield 22, 3) := by decide +kernel
theorem dJ5_inflate_da8c8_41 : decode cJ5_inflate_da8c8 41 = .ok (.return_, 1) := by decide +kernel
theorem dJ5_append_cf1ce_0 : decode cJ5_append_cf1ce 0 = .ok (.aload_n 1, 1) := by decide +kernel
theorem dJ5_append_cf1ce_1 : decode cJ5_append_cf1ce 1 = .ok (.ifnonnull 8, 3) := by decide +kernel
theorem dJ5_append_cf1ce_4 : decode cJ5_append_cf1ce 4 = .ok (.aload_n 0, 1) := by decide +kernel
theorem dJ5_append_cf1ce_5 : decode cJ5_append_cf1ce 5 = .ok (.invokevirtual 204, 3) := by decide +kernel
theorem dJ5_append_cf1ce_8 : decode cJ5_append_cf1ce 8 = .ok (.areturn, 1) := by decide +kernel
theorem dJ5_append_cf1ce_9 : decode cJ5_append_cf1ce 9 = .ok (.aload_n 1, 1) := by decide +kernel
theorem dJ5_append_cf1ce_10 : decode cJ5_append_cf1ce 10 = .ok (.invokevirtual 32, 3) := by decide +kernel
theorem dJ5_append_cf1ce_13 : decode cJ5_append_cf1ce 13 = .ok (.istore_n 2, 1) := by decide +kernel
theorem dJ5_append_cf1ce_14 : decode cJ5_append_cf1ce 14 = .ok (.aload_n 0, 1) := by decide +kernel
theorem dJ5_append_cf1ce_15 : decode cJ5_append_cf1ce 15 = .ok (.aload_n 0, 1) := by decide +kernel
theorem dJ5_append_cf1ce_16 : decode cJ5_append_cf1ce 16 = .ok (.getfield 79, 3) := by decide +kernel
theorem dJ5_append_cf1ce_19 : decode cJ5_append_cf1ce 19 = .ok (.iload_n 2, 1) := by decide +kernel
theorem dJ5_append_cf1ce_20 : decode cJ5_append_cf1ce 20 = .ok (.iadd, 1) := by decide +kernel
theorem dJ5_append_cf1ce_21 : decode cJ5_append_cf1ce 21 = .ok (.invokevirtual 100, 3) := by decide +kernel
theorem dJ5_append_cf1ce_24 : decode cJ5_append_cf1ce 24 = .ok (.aload_n 0, 1) := by decide +kernel
theorem dJ5_append_cf1ce_25 : decode cJ5_append_cf1ce 25 = .ok (.aload_n 0, 1) := by decide +kernel
theorem dJ5_append_cf1ce_26 : decode cJ5_append_cf1ce 26 = .ok (.getfield 79, 3) := by decide +kernel
theorem dJ5_append_cf1ce_29 : decode cJ5_append_cf1ce 29 = .ok (.aload_n 1, 1) := by decide +kernel
theorem dJ5_append_cf1ce_30 : decode cJ5_append_cf1ce 30 = .ok (.invokevirtual 208, 3) := by decide +kernel
theorem dJ5_append_cf1ce_33 : decode cJ5_append_cf1ce 33 = .ok (.aload_n 0, 1) := by decide +kernel
theorem dJ5_append_cf1ce_34 : decode cJ5_append_cf1ce 34 = .ok (.dup, 1) := by decide +kernel
theorem dJ5_append_cf1ce_35 : decode cJ5_append_cf1ce 35 = .ok (.getfield 79, 3) := by decide +kernel
theorem dJ5_append_cf1ce_38 : decode cJ5_append_cf1ce 38 = .ok (.iload_n 2, 1) := by decide +kernel
theorem dJ5_append_cf1ce_39 : decode cJ5_append_cf1ce 39 = .ok (.iadd, 1) := by decide +kernel
theorem dJ5_append_cf1ce_40 : decode cJ5_append_cf1ce 40 = .ok (.putfield 79, 3) := by decide +kernel
theorem dJ5_append_cf1ce_43 : decode cJ5_append_cf1ce 43 = .ok (.aload_n 0, 1) := by decide +kernel
theorem dJ5_append_cf1ce_44 : decode cJ5_append_cf1ce 44 = .ok (.areturn, 1) := by decide +kernel
theorem dJ5_appendNull_278bc_0 : decode cJ5_appendNull_278bc 0 = .ok (.aload_n 0, 1) := by decide +kernel
theorem dJ5_appendNull_278bc_1 : decode cJ5_appendNull_278bc 1 = .ok (.aload_n 0, 1) := by decide +kernel
theorem dJ5_appendNull_278bc_2 : decode cJ5_appendNull_278bc 2 = .ok (.getfield 79, 3) := by decide +kernel
theorem dJ5_appendNull_278bc_5 : decode cJ5_appendNull_278bc 5 = .ok (.iconst 4, 1) := by decide +kernel
theorem dJ5_appendNull_278bc_6 : decode cJ5_appendNull_278bc 6 = .ok (.iadd, 1) := by decide +kernel
theorem dJ5_appendNull_278bc_7 : decode cJ5_appendNull_278bc 7 = .ok (.invokevirtual 100, 3) := by decide +kernel
theorem dJ5_appendNull_278bc_10 : decode cJ5_appendNull_278bc 10 = .ok (.aload_n 0, 1) := by decide +kernel
theorem dJ5_appendNull_278bc_11 : decode cJ5_appendNull_278bc 11 = .ok (.getfield 79, 3) := by decide +kernel
theorem dJ5_appendNull_278bc_14 : decode cJ5_appendNull_278bc 14 = .ok (.istore_n 1, 1) := by decide +kernel
theorem dJ5_appendNull_278bc_15 : decode cJ5_appendNull_278bc 15 = .ok (.aload_n 0, 1) := by decide +kernel
theorem dJ5_appendNull_278bc_16 : decode cJ5_appendNull_278bc 16 = .ok (.getfield 15, 3) := by decide +kernel
theorem dJ5_appendNull_278bc_19 : decode cJ5_appendNull_278bc 19 = .ok (.astore_n 2, 1) := by decide +kernel
theorem dJ5_appendNull_278bc_20 : decode cJ5_appendNull_278bc 20 = .ok (.aload_n 0, 1) := by decide +kernel
theorem dJ5_appendNull_278bc_21 : decode cJ5_appendNull_278bc 21 = .ok (.invokevirtual 83, 3) := by decide +kernel
theorem dJ5_appendNull_278bc_24 : decode cJ5_appendNull_278bc 24 = .ok (.ifCond .eq 38, 3) := by decide +kernel
theorem dJ5_appendNull_278bc_27 : decode cJ5_appendNull_278bc 27 = .ok (.aload_n 2, 1) := by decide +kernel
theorem dJ5_appendNull_278bc_28 : decode cJ5_appendNull_278bc 28 = .ok (.iload_n 1, 1) := by decide +kernel
theorem dJ5_appendNull_278bc_29 : decode cJ5_appendNull_278bc 29 = .ok (.iinc 1 1, 3) := by decide +kernel
theorem dJ5_appendNull_278bc_32 : decode cJ5_appendNull_278bc 32 = .ok (.bipush 110, 2) := by decide +kernel
theorem dJ5_appendNull_278bc_34 : decode cJ5_appendNull_278bc 34 = .ok (.bastore, 1) := by decide +kernel
theorem dJ5_appendNull_278bc_35 : decode cJ5_appendNull_278bc 35 = .ok (.aload_n 2, 1) := by decide +kernel
theorem dJ5_appendNull_278bc_36 : decode cJ5_appendNull_278bc 36 = .ok (.iload_n 1, 1) := by decide +kernel
theorem dJ5_appendNull_278bc_37 : decode cJ5_appendNull_278bc 37 = .ok (.iinc 1 1, 3) := by decide +kernel
theorem dJ5_appendNull_278bc_40 : decode cJ5_appendNull_278bc 40 = .ok (.bipush 117, 2) := by decide +kernel
theorem dJ5_appendNull_278bc_42 : decode cJ5_appendNull_278bc 42 = .ok (.bastore, 1) := by decide +kernel
theorem dJ5_appendNull_278bc_43 : decode cJ5_appendNull_278bc 43 = .ok (.aload_n 2, 1) := by decide +kernel
theorem dJ5_appendNull_278bc_44 : decode cJ5_appendNull_278bc 44 = .ok (.iload_n 1, 1) := by decide +kernel
theorem dJ5_appendNull_278bc_45 : decode cJ5_appendNull_278bc 45 = .ok (.iinc 1 1, 3) := by decide +kernel
theorem dJ5_appendNull_278bc_48 : decode cJ5_appendNull_278bc 48 = .ok (.bipush 108, 2) := by decide +kernel
theorem dJ5_appendNull_278bc_50 : decode cJ5_appendNull_278bc 50 = .ok (.bastore, 1) := by decide +kernel
theorem dJ5_appendNull_278bc_51 : decode cJ5_appendNull_278bc 51 = .ok (.aload_n 2, 1) := by decide +kernel
theorem dJ5_appendNull_278bc_52 : decode cJ5_appendNull_278bc 52 = .ok (.iload_n 1, 1) := by decide +kernel
theorem dJ5_appendNull_278bc_53 : decode cJ5_appendNull_278bc 53 = .ok (.iinc 1 1, 3) := by decide +kernel
theorem dJ5_appendNull_278bc_56 : decode cJ5_appendNull_278bc 56 = .ok (.bipush 108, 2) := by decide +kernel
theorem dJ5_appendNull_278bc_58 : decode cJ5_appendNull_278bc 58 = .ok (.bastore, 1) := by decide +kernel
theorem dJ5_appendNull_278bc_59 : decode cJ5_appendNull_278bc 59 = .ok (.goto 17, 3) := by decide +kernel
theorem dJ5_appendNull_278bc_62 : decode cJ5_appendNull_278bc 62 = .ok (.aload_n 2, 1) := by decide +kernel
theorem dJ5_appendNull_278bc_63 : decode cJ5_appendNull_278bc 63 = .ok (.iload_n 1, 1) := by decide +kernel
theorem dJ5_appendNull_278bc_64 : decode cJ5_appendNull_278bc 64 = .ok (.bipush 110, 2) := by decide +kernel
theorem dJ5_appendNull_278bc_66 : decode cJ5_appendNull_278bc 66 = .ok (.bipush 117, 2) := by decide +kernel
theorem dJ5_appendNull_278bc_68 : decode cJ5_appendNull_278bc 68 = .ok (.bipush 108, 2) := by decide +kernel
theorem dJ5_appendNull_278bc_70 : decode cJ5_appendNull_278bc 70 = .ok (.bipush 108, 2) := by decide +kernel
theorem dJ5_appendNull_278bc_72 : decode cJ5_appendNull_278bc 72 = .ok (.invokestatic 226, 3) := by decide +kernel
theorem dJ5_appendNull_278bc_75 : decode cJ5_appendNull_278bc 75 = .ok (.istore_n 1, 1) := by decide +kernel
theorem dJ5_appendNull_278bc_76 : decode cJ5_appendNull_278bc 76 = .ok (.aload_n 0, 1) := by decide +kernel
theorem dJ5_appendNull_278bc_77 : decode cJ5_appendNull_278bc 77 = .ok (.iload_n 1, 1) := by decide +kernel
theorem dJ5_appendNull_278bc_78 : decode cJ5_appendNull_278bc 78 = .ok (.putfield 79, 3) := by decide +kernel
theorem dJ5_appendNull_278bc_81 : decode cJ5_appendNull_278bc 81 = .ok (.aload_n 0, 1) := by decide +kernel
theorem dJ5_appendNull_278bc_82 : decode cJ5_appendNull_278bc 82 = .ok (.areturn, 1) := by decide +kernel
theorem dJ5_append_3fe6f_0 : decode cJ5_append_3fe6f 0 = .ok (.aload_n 0, 1) := by decide +kernel
theorem dJ5_append_3fe6f_1 : decode cJ5_append_3fe6f 1 = .ok (.aload_n 0, 1) := by decide +kernel
theorem dJ5_append_3fe6f_2 : decode cJ5_append_3fe6f 2 = .ok (.getfield 79, 3) := by decide +kernel
theorem dJ5_append_3fe6f_5 : decode cJ5_append_3fe6f 5 = .ok (.iconst 1, 1) := by decide +kernel
theorem dJ5_append_3fe6f_6 : decode cJ5_append_3fe6f 6 = .ok (.iadd, 1) := by decide +kernel
theorem dJ5_append_3fe6f_7 : decode cJ5_append_3fe6f 7 = .ok (.invokevirtual 100, 3) := by decide +kernel
theorem dJ5_append_3fe6f_10 : decode cJ5_append_3fe6f 10 = .ok (.aload_n 0, 1) := by decide +kernel
theorem dJ5_append_3fe6f_11 : decode cJ5_append_3fe6f 11 = .ok (.invokevirtual 83, 3) := by decide +kernel
theorem dJ5_append_3fe6f_14 : decode cJ5_append_3fe6f 14 = .ok (.ifCond .eq 31, 3) := by decide +kernel
theorem dJ5_append_3fe6f_17 : decode cJ5_append_3fe6f 17 = .ok (.iload_n 1, 1) := by decide +kernel
theorem dJ5_append_3fe6f_18 : decode cJ5_append_3fe6f 18 = .ok (.invokestatic 191, 3) := by decide +kernel
theorem dJ5_append_3fe6f_21 : decode cJ5_append_3fe6f 21 = .ok (.ifCond .eq 24, 3) := by decide +kernel
theorem dJ5_append_3fe6f_24 : decode cJ5_append_3fe6f 24 = .ok (.aload_n 0, 1) := by decide +kernel
theorem dJ5_append_3fe6f_25 : decode cJ5_append_3fe6f 25 = .ok (.getfield 15, 3) := by decide +kernel
theorem dJ5_append_3fe6f_28 : decode cJ5_append_3fe6f 28 = .ok (.aload_n 0, 1) := by decide +kernel
theorem dJ5_append_3fe6f_29 : decode cJ5_append_3fe6f 29 = .ok (.dup, 1) := by decide +kernel
theorem dJ5_append_3fe6f_30 : decode cJ5_append_3fe6f 30 = .ok (.getfield 79, 3) := by decide +kernel
theorem dJ5_append_3fe6f_33 : decode cJ5_append_3fe6f 33 = .ok (.dup_x1, 1) := by decide +kernel
theorem dJ5_append_3fe6f_34 : decode cJ5_append_3fe6f 34 = .ok (.iconst 1, 1) := by decide +kernel
theorem dJ5_append_3fe6f_35 : decode cJ5_append_3fe6f 35 = .ok (.iadd, 1) := by decide +kernel
theorem dJ5_append_3fe6f_36 : decode cJ5_append_3fe6f 36 = .ok (.putfield 79, 3) := by decide +kernel
theorem dJ5_append_3fe6f_39 : decode cJ5_append_3fe6f 39 = .ok (.iload_n 1, 1) := by decide +kernel
theorem dJ5_append_3fe6f_40 : decode cJ5_append_3fe6f 40 = .ok (.i2b, 1) := by decide +kernel
theorem dJ5_append_3fe6f_41 : decode cJ5_append_3fe6f 41 = .ok (.bastore, 1) := by decide +kernel
theorem dJ5_append_3fe6f_42 : decode cJ5_append_3fe6f 42 = .ok (.goto 33, 3) := by decide +kernel
theorem dJ5_append_3fe6f_45 : decode cJ5_append_3fe6f 45 = .ok (.aload_n 0, 1) := by decide +kernel
theorem dJ5_append_3fe6f_46 : decode cJ5_append_3fe6f 46 = .ok (.invokevirtual 83, 3) := by decide +kernel
theorem dJ5_append_3fe6f_49 : decode cJ5_append_3fe6f 49 = .ok (.ifCond .eq 7, 3) := by decide +kernel
theorem dJ5_append_3fe6f_52 : decode cJ5_append_3fe6f 52 = .ok (.aload_n 0, 1) := by decide +kernel
theorem dJ5_append_3fe6f_53 : decode cJ5_append_3fe6f 53 = .ok (.invokevirtual 195, 3) := by decide +kernel
theorem dJ5_append_3fe6f_56 : decode cJ5_append_3fe6f 56 = .ok (.aload_n 0, 1) := by decide +kernel
theorem dJ5_append_3fe6f_57 : decode cJ5_append_3fe6f 57 = .ok (.getfield 15, 3) := by decide +kernel
theorem dJ5_append_3fe6f_60 : decode cJ5_append_3fe6f 60 = .ok (.aload_n 0, 1) := by decide +kernel
theorem dJ5_append_3fe6f_61 : decode cJ5_append_3fe6f 61 = .ok (.dup, 1) := by decide +kernel
theorem dJ5_append_3fe6f_62 : decode cJ5_append_3fe6f 62 = .ok (.getfield 79, 3) := by decide +kernel
theorem dJ5_append_3fe6f_65 : decode cJ5_append_3fe6f 65 = .ok (.dup_x1, 1) := by decide +kernel
theorem dJ5_append_3fe6f_66 : decode cJ5_append_3fe6f 66 = .ok (.iconst 1, 1) := by decide +kernel
theorem dJ5_append_3fe6f_67 : decode cJ5_append_3fe6f 67 = .ok (.iadd, 1) := by decide +kernel
theorem dJ5_append_3fe6f_68 : decode cJ5_append_3fe6f 68 = .ok (.putfield 79, 3) := by decide +kernel
theorem dJ5_append_3fe6f_71 : decode cJ5_append_3fe6f 71 = .ok (.iload_n 1, 1) := by decide +kernel
theorem dJ5_append_3fe6f_72 : decode cJ5_append_3fe6f 72 = .ok (.invokestatic 197, 3) := by decide +kernel
theorem dJ5_append_3fe6f_75 : decode cJ5_append_3fe6f 75 = .ok (.aload_n 0, 1) := by decide +kernel
theorem dJ5_append_3fe6f_76 : decode cJ5_append_3fe6f 76 = .ok (.areturn, 1) := by decide +kernel
theorem dJ5_append_c97b9_0 : decode cJ5_append_c97b9 0 = .ok (.aload_n 0, 1) := by decide +kernel
theorem dJ5_append_c97b9_1 : decode cJ5_append_c97b9 1 = .ok (.getfield 79, 3) := by decide +kernel
theorem dJ5_append_c97b9_4 : decode cJ5_append_c97b9 4 = .ok (.istore_n 2, 1) := by decide +kernel
theorem dJ5_append_c97b9_5 : decode cJ5_append_c97b9 5 = .ok (.iload_n 2, 1) := by decide +kernel
theorem dJ5_append_c97b9_6 : decode cJ5_append_c97b9 6 = .ok (.iload_n 1, 1) := by decide +kernel
theorem dJ5_append_c97b9_7 : decode cJ5_append_c97b9 7 = .ok (.invokestatic 245, 3) := by decide +kernel
theorem dJ5_append_c97b9_10 : decode cJ5_append_c97b9 10 = .ok (.iadd, 1) := by decide +kernel
theorem dJ5_append_c97b9_11 : decode cJ5_append_c97b9 11 = .ok (.istore_n 3, 1) := by decide +kernel
theorem dJ5_append_c97b9_12 : decode cJ5_append_c97b9 12 = .ok (.aload_n 0, 1) := by decide +kernel
theorem dJ5_append_c97b9_13 : decode cJ5_append_c97b9 13 = .ok (.iload_n 3, 1) := by decide +kernel
theorem dJ5_append_c97b9_14 : decode cJ5_append_c97b9 14 = .ok (.invokevirtual 100, 3) := by decide +kernel
theorem dJ5_append_c97b9_17 : decode cJ5_append_c97b9 17 = .ok (.aload_n 0, 1) := by decide +kernel
theorem dJ5_append_c97b9_18 : decode cJ5_append_c97b9 18 = .ok (.invokevirtual 83, 3) := by decide +kernel
theorem dJ5_append_c97b9_21 : decode cJ5_append_c97b9 21 = .ok (.ifCond .eq 16, 3) := by decide +kernel
theorem dJ5_append_c97b9_24 : decode cJ5_append_c97b9 24 = .ok (.iload_n 1, 1) := by decide +kernel
theorem dJ5_append_c97b9_25 : decode cJ5_append_c97b9 25 = .ok (.iload_n 3, 1) := by decide +kernel
theorem dJ5_append_c97b9_26 : decode cJ5_append_c97b9 26 = .ok (.aload_n 0, 1) := by decide +kernel
theorem dJ5_append_c97b9_27 : decode cJ5_append_c97b9 27 = .ok (.getfield 15, 3) := by decide +kernel
theorem dJ5_append_c97b9_30 : decode cJ5_append_c97b9 30 = .ok (.invokestatic 248, 3) := by decide +kernel
theorem dJ5_append_c97b9_33 : decode cJ5_append_c97b9 33 = .ok (.pop, 1) := by decide +kernel
theorem dJ5_append_c97b9_34 : decode cJ5_append_c97b9 34 = .ok (.goto 14, 3) := by decide +kernel
theorem dJ5_append_c97b9_37 : decode cJ5_append_c97b9 37 = .ok (.iload_n 1, 1) := by decide +kernel
theorem dJ5_append_c97b9_38 : decode cJ5_append_c97b9 38 = .ok (.iload_n 2, 1) := by decide +kernel
theorem dJ5_append_c97b9_39 : decode cJ5_append_c97b9 39 = .ok (.iload_n 3, 1) := by decide +kernel
theorem dJ5_append_c97b9_40 : decode cJ5_append_c97b9 40 = .ok (.aload_n 0, 1) := by decide +kernel
theorem dJ5_append_c97b9_41 : decode cJ5_append_c97b9 41 = .ok (.getfield 15, 3) := by decide +kernel
theorem dJ5_append_c97b9_44 : decode cJ5_append_c97b9 44 = .ok (.invokestatic 251, 3) := by decide +kernel
theorem dJ5_append_c97b9_47 : decode cJ5_append_c97b9 47 = .ok (.pop, 1) := by decide +kernel
theorem dJ5_append_c97b9_48 : decode cJ5_append_c97b9 48 = .ok (.aload_n 0, 1) := by decide +kernel
theorem dJ5_append_c97b9_49 : decode cJ5_append_c97b9 49 = .ok (.iload_n 3, 1) := by decide +kernel
theorem dJ5_append_c97b9_50 : decode cJ5_append_c97b9 50 = .ok (.putfield 79, 3) := by decide +kernel
theorem dJ5_append_c97b9_53 : decode cJ5_append_c97b9 53 = .ok (.aload_n 0, 1) := by decide +kernel
theorem dJ5_append_c97b9_54 : decode cJ5_append_c97b9 54 = .ok (.areturn, 1) := by decide +kernel
theorem dJ5_getValue_6d5f1_0 : decode cJ5_getValue_6d5f1 0 = .ok (.aload_n 0, 1) := by decide +kernel
theorem dJ5_getValue_6d5f1_1 : decode cJ5_getValue_6d5f1 1 = .ok (.getfield 15, 3) := by decide +kernel
theorem dJ5_getValue_6d5f1_4 : decode cJ5_getValue_6d5f1 4 = .ok (.areturn, 1) := by decide +kernel
theorem dJ5_isLatin1_aae02_0 : decode cJ5_isLatin1_aae02 0 = .ok (.getstatic 18, 3) := by decide +kernel
theorem dJ5_isLatin1_aae02_3 : decode cJ5_isLatin1_aae02 3 = .ok (.ifCond .eq 14, 3) := by decide +kernel
theorem dJ5_isLatin1_aae02_6 : decode cJ5_isLatin1_aae02 6 = .ok (.aload_n 0, 1) := by decide +kernel
theorem dJ5_isLatin1_aae02_7 : decode cJ5_isLatin1_aae02 7 = .ok (.getfield 22, 3) := by decide +kernel
theorem dJ5_isLatin1_aae02_10 : decode cJ5_isLatin1_aae02 10 = .ok (.ifCond .ne 7, 3) := by decide +kernel
theorem dJ5_isLatin1_aae02_13 : decode cJ5_isLatin1_aae02 13 = .ok (.iconst 1, 1) := by decide +kernel
theorem dJ5_isLatin1_aae02_14 : decode cJ5_isLatin1_aae02 14 = .ok (.goto 4, 3) := by decide +kernel
theorem dJ5_isLatin1_aae02_17 : decode cJ5_isLatin1_aae02 17 = .ok (.iconst 0, 1) := by decide +kernel
theorem dJ5_isLatin1_aae02_18 : decode cJ5_isLatin1_aae02 18 = .ok (.ireturn, 1) := by decide +kernel
theorem dJ5_inflateIfNeededFor_a7421_0 : decode cJ5_inflateIfNeededFor_a7421 0 = .ok (.getstatic 18, 3) := by decide +kernel
theorem dJ5_inflateIfNeededFor_a7421_3 : decode cJ5_inflateIfNeededFor_a7421 3 = .ok (.ifCond .eq 18, 3) := by decide +kernel
theorem dJ5_inflateIfNeededFor_a7421_6 : decode cJ5_inflateIfNeededFor_a7421 6 = .ok (.aload_n 0, 1) := by decide +kernel
theorem dJ5_inflateIfNeededFor_a7421_7 : decode cJ5_inflateIfNeededFor_a7421 7 = .ok (.getfield 22, 3) := by decide +kernel
theorem dJ5_inflateIfNeededFor_a7421_10 : decode cJ5_inflateIfNeededFor_a7421 10 = .ok (.aload_n 1, 1) := by decide +kernel
theorem dJ5_inflateIfNeededFor_a7421_11 : decode cJ5_inflateIfNeededFor_a7421 11 = .ok (.invokevirtual 40, 3) := by decide +kernel
theorem dJ5_inflateIfNeededFor_a7421_14 : decode cJ5_inflateIfNeededFor_a7421 14 = .ok (.if_icmp .eq 7, 3) := by decide +kernel
theorem dJ5_inflateIfNeededFor_a7421_17 : decode cJ5_inflateIfNeededFor_a7421 17 = .ok (.aload_n 0, 1) := by decide +kernel
theorem dJ5_inflateIfNeededFor_a7421_18 : decode cJ5_inflateIfNeededFor_a7421 18 = .ok (.invokevirtual 195, 3) := by decide +kernel
theorem dJ5_inflateIfNeededFor_a7421_21 : decode cJ5_inflateIfNeededFor_a7421 21 = .ok (.return_, 1) := by decide +kernel
theorem dJ5_putStringAt_47b60_0 : decode cJ5_putStringAt_47b60 0 = .ok (.aload_n 0, 1) := by decide +kernel
theorem dJ5_putStringAt_47b60_1 : decode cJ5_putStringAt_47b60 1 = .ok (.aload_n 2, 1) := by decide +kernel
theorem dJ5_putStringAt_47b60_2 : decode cJ5_putStringAt_47b60 2 = .ok (.invokevirtual 397, 3) := by decide +kernel
theorem dJ5_putStringAt_47b60_5 : decode cJ5_putStringAt_47b60 5 = .ok (.aload_n 2, 1) := by decide +kernel
theorem dJ5_putStringAt_47b60_6 : decode cJ5_putStringAt_47b60 6 = .ok (.aload_n 0, 1) := by decide +kernel
theorem dJ5_putStringAt_47b60_7 : decode cJ5_putStringAt_47b60 7 = .ok (.getfield 15, 3) := by decide +kernel
theorem dJ5_putStringAt_47b60_10 : decode cJ5_putStringAt_47b60 10 = .ok (.iload_n 1, 1) := by decide +kernel
theorem dJ5_putStringAt_47b60_11 : decode cJ5_putStringAt_47b60 11 = .ok (.aload_n 0, 1) := by decide +kernel
theorem dJ5_putStringAt_47b60_12 : decode cJ5_putStringAt_47b60 12 = .ok (.getfield 22, 3) := by decide +kernel
theorem dJ5_putStringAt_47b60_15 : decode cJ5_putStringAt_47b60 15 = .ok (.invokevirtual 399, 3) := by decide +kernel
theorem dJ5_putStringAt_47b60_18 : decode cJ5_putStringAt_47b60 18 = .ok (.return_, 1) := by decide +kernel
theorem dJ6_getChars_ba4f3_0 : decode cJ6_getChars_ba4f3 0 = .ok (.iload_n 1, 1) := by decide +kernel
theorem dJ6_getChars_ba4f3_1 : decode cJ6_getChars_ba4f3 1 = .ok (.istore 5, 2) := by decide +kernel
theorem dJ6_getChars_ba4f3_3 : decode cJ6_getChars_ba4f3 3 = .ok (.iload_n 0, 1) := by decide +kernel
theorem dJ6_getChars_ba4f3_4 : decode cJ6_getChars_ba4f3 4 = .ok (.ifCond .ge 7, 3) := by decide +kernel
theorem dJ6_getChars_ba4f3_7 : decode cJ6_getChars_ba4f3 7 = .ok (.iconst 1, 1) := by decide +kernel
theorem dJ6_getChars_ba4f3_8 : decode cJ6_getChars_ba4f3 8 = .ok (.goto 4, 3) := by decide +kernel
theorem dJ6_getChars_ba4f3_11 : decode cJ6_getChars_ba4f3 11 = .ok (.iconst 0, 1) := by decide +kernel
theorem dJ6_getChars_ba4f3_12 : decode cJ6_getChars_ba4f3 12 = .ok (.istore 6, 2) := by decide +kernel
theorem dJ6_getChars_ba4f3_14 : decode cJ6_getChars_ba4f3 14 = .ok (.iload 6, 2) := by decide +kernel
theorem dJ6_getChars_ba4f3_16 : decode cJ6_getChars_ba4f3 16 = .ok (.ifCond .ne 6, 3) := by decide +kernel
theorem dJ6_getChars_ba4f3_19 : decode cJ6_getChars_ba4f3 19 = .ok (.iload_n 0, 1) := by decide +kernel
theorem dJ6_getChars_ba4f3_20 : decode cJ6_getChars_ba4f3 20 = .ok (.ineg, 1) := by decide +kernel
theorem dJ6_getChars_ba4f3_21 : decode cJ6_getChars_ba4f3 21 = .ok (.istore_n 0, 1) := by decide +kernel
theorem dJ6_getChars_ba4f3_22 : decode cJ6_getChars_ba4f3 22 = .ok (.iload_n 0, 1) := by decide +kernel
theorem dJ6_getChars_ba4f3_23 : decode cJ6_getChars_ba4f3 23 = .ok (.bipush (-100), 2) := by decide +kernel
theorem dJ6_getChars_ba4f3_25 : decode cJ6_getChars_ba4f3 25 = .ok (.if_icmp .gt 47, 3) := by decide +kernel
theorem dJ6_getChars_ba4f3_28 : decode cJ6_getChars_ba4f3 28 = .ok (.iload_n 0, 1) := by decide +kernel
theorem dJ6_getChars_ba4f3_29 : decode cJ6_getChars_ba4f3 29 = .ok (.bipush 100, 2) := by decide +kernel
theorem dJ6_getChars_ba4f3_31 : decode cJ6_getChars_ba4f3 31 = .ok (.idiv, 1) := by decide +kernel
theorem dJ6_getChars_ba4f3_32 : decode cJ6_getChars_ba4f3 32 = .ok (.istore_n 3, 1) := by decide +kernel
theorem dJ6_getChars_ba4f3_33 : decode cJ6_getChars_ba4f3 33 = .ok (.iload_n 3, 1) := by decide +kernel
theorem dJ6_getChars_ba4f3_34 : decode cJ6_getChars_ba4f3 34 = .ok (.bipush 100, 2) := by decide +kernel
theorem dJ6_getChars_ba4f3_36 : decode cJ6_getChars_ba4f3 36 = .ok (.imul, 1) := by decide +kernel
theorem dJ6_getChars_ba4f3_37 : decode cJ6_getChars_ba4f3 37 = .ok (.iload_n 0, 1) := by decide +kernel
theorem dJ6_getChars_ba4f3_38 : decode cJ6_getChars_ba4f3 38 = .ok (.isub, 1) := by decide +kernel
theorem dJ6_getChars_ba4f3_39 : decode cJ6_getChars_ba4f3 39 = .ok (.istore 4, 2) := by decide +kernel
theorem dJ6_getChars_ba4f3_41 : decode cJ6_getChars_ba4f3 41 = .ok (.iload_n 3, 1) := by decide +kernel
theorem dJ6_getChars_ba4f3_42 : decode cJ6_getChars_ba4f3 42 = .ok (.istore_n 0, 1) := by decide +kernel
theorem dJ6_getChars_ba4f3_43 : decode cJ6_getChars_ba4f3 43 = .ok (.aload_n 2, 1) := by decide +kernel
theorem dJ6_getChars_ba4f3_44 : decode cJ6_getChars_ba4f3 44 = .ok (.iinc 5 (-1), 3) := by decide +kernel
theorem dJ6_getChars_ba4f3_47 : decode cJ6_getChars_ba4f3 47 = .ok (.iload 5, 2) := by decide +kernel
theorem dJ6_getChars_ba4f3_49 : decode cJ6_getChars_ba4f3 49 = .ok (.getstatic 83, 3) := by decide +kernel
theorem dJ6_getChars_ba4f3_52 : decode cJ6_getChars_ba4f3 52 = .ok (.iload 4, 2) := by decide +kernel
theorem dJ6_getChars_ba4f3_54 : decode cJ6_getChars_ba4f3 54 = .ok (.baload, 1) := by decide +kernel
theorem dJ6_getChars_ba4f3_55 : decode cJ6_getChars_ba4f3 55 = .ok (.bastore, 1) := by decide +kernel
theorem dJ6_getChars_ba4f3_56 : decode cJ6_getChars_ba4f3 56 = .ok (.aload_n 2, 1) := by decide +kernel
theorem dJ6_getChars_ba4f3_57 : decode cJ6_getChars_ba4f3 57 = .ok (.iinc 5 (-1), 3) := by decide +kernel
theorem dJ6_getChars_ba4f3_60 : decode cJ6_getChars_ba4f3 60 = .ok (.iload 5, 2) := by decide +kernel
theorem dJ6_getChars_ba4f3_62 : decode cJ6_getChars_ba4f3 62 = .ok (.getstatic 87, 3) := by decide +kernel
theorem dJ6_getChars_ba4f3_65 : decode cJ6_getChars_ba4f3 65 = .ok (.iload 4, 2) := by decide +kernel
theorem dJ6_getChars_ba4f3_67 : decode cJ6_getChars_ba4f3 67 = .ok (.baload, 1) := by decide +kernel
theorem dJ6_getChars_ba4f3_68 : decode cJ6_getChars_ba4f3 68 = .ok (.bastore, 1) := by decide +kernel
theorem dJ6_getChars_ba4f3_69 : decode cJ6_getChars_ba4f3 69 = .ok (.goto (-47), 3) := by decide +kernel
theorem dJ6_getChars_ba4f3_72 : decode cJ6_getChars_ba4f3 72 = .ok (.aload_n 2, 1) := by decide +kernel
theorem dJ6_getChars_ba4f3_73 : decode cJ6_getChars_ba4f3 73 = .ok (.iinc 5 (-1), 3) := by decide +kernel
theorem dJ6_getChars_ba4f3_76 : decode cJ6_getChars_ba4f3 76 = .ok (.iload 5, 2) := by decide +kernel
theorem dJ6_getChars_ba4f3_78 : decode cJ6_getChars_ba4f3 78 = .ok (.getstatic 83, 3) := by decide +kernel
theorem dJ6_getChars_ba4f3_81 : decode cJ6_getChars_ba4f3 81 = .ok (.iload_n 0, 1) := by decide +kernel
theorem dJ6_getChars_ba4f3_82 : decode cJ6_getChars_ba4f3 82 = .ok (.ineg, 1) := by decide +kernel
theorem dJ6_getChars_ba4f3_83 : decode cJ6_getChars_ba4f3 83 = .ok (.baload, 1) := by decide +kernel
theorem dJ6_getChars_ba4f3_84 : decode cJ6_getChars_ba4f3 84 = .ok (.bastore, 1) := by decide +kernel
theorem dJ6_getChars_ba4f3_85 : decode cJ6_getChars_ba4f3 85 = .ok (.iload_n 0, 1) := by decide +kernel
theorem dJ6_getChars_ba4f3_86 : decode cJ6_getChars_ba4f3 86 = .ok (.bipush (-9), 2) := by decide +kernel
theorem dJ6_getChars_ba4f3_88 : decode cJ6_getChars_ba4f3 88 = .ok (.if_icmp .ge 16, 3) := by decide +kernel
theorem dJ6_getChars_ba4f3_91 : decode cJ6_getChars_ba4f3 91 = .ok (.aload_n 2, 1) := by decide +kernel
theorem dJ6_getChars_ba4f3_92 : decode cJ6_getChars_ba4f3 92 = .ok (.iinc 5 (-1), 3) := by decide +kernel
theorem dJ6_getChars_ba4f3_95 : decode cJ6_getChars_ba4f3 95 = .ok (.iload 5, 2) := by decide +kernel
theorem dJ6_getChars_ba4f3_97 : decode cJ6_getChars_ba4f3 97 = .ok (.getstatic 87, 3) := by decide +kernel
theorem dJ6_getChars_ba4f3_100 : decode cJ6_getChars_ba4f3 100 = .ok (.iload_n 0, 1) := by decide +kernel
theorem dJ6_getChars_ba4f3_101 : decode cJ6_getChars_ba4f3 101 = .ok (.ineg, 1) := by decide +kernel
theorem dJ6_getChars_ba4f3_102 : decode cJ6_getChars_ba4f3 102 = .ok (.baload, 1) := by decide +kernel
theorem dJ6_getChars_ba4f3_103 : decode cJ6_getChars_ba4f3 103 = .ok (.bastore, 1) := by decide +kernel
theorem dJ6_getChars_ba4f3_104 : decode cJ6_getChars_ba4f3 104 = .ok (.iload 6, 2) := by decide +kernel
theorem dJ6_getChars_ba4f3_106 : decode cJ6_getChars_ba4f3 106 = .ok (.ifCond .eq 12, 3) := by decide +kernel
theorem dJ6_getChars_ba4f3_109 : decode cJ6_getChars_ba4f3 109 = .ok (.aload_n 2, 1) := by decide +kernel
theorem dJ6_getChars_ba4f3_110 : decode cJ6_getChars_ba4f3 110 = .ok (.iinc 5 (-1), 3) := by decide +kernel
theorem dJ6_getChars_ba4f3_113 : decode cJ6_getChars_ba4f3 113 = .ok (.iload 5, 2) := by decide +kernel
theorem dJ6_getChars_ba4f3_115 : decode cJ6_getChars_ba4f3 115 = .ok (.bipush 45, 2) := by decide +kernel
theorem dJ6_getChars_ba4f3_117 : decode cJ6_getChars_ba4f3 117 = .ok (.bastore, 1) := by decide +kernel
theorem dJ6_getChars_ba4f3_118 : decode cJ6_getChars_ba4f3 118 = .ok (.iload 5, 2) := by decide +kernel
theorem dJ6_getChars_ba4f3_120 : decode cJ6_getChars_ba4f3 120 = .ok (.ireturn, 1) := by decide +kernel
theorem dJ6_stringSize_0f7a4_0 : decode cJ6_stringSize_0f7a4 0 = .ok (.iconst 1, 1) := by decide +kernel
theorem dJ6_stringSize_0f7a4_1 : decode cJ6_stringSize_0f7a4 1 = .ok (.istore_n 1, 1) := by decide +kernel
theorem dJ6_stringSize_0f7a4_2 : decode cJ6_stringSize_0f7a4 2 = .ok (.iload_n 0, 1) := by decide +kernel
theorem dJ6_stringSize_0f7a4_3 : decode cJ6_stringSize_0f7a4 3 = .ok (.ifCond .lt 8, 3) := by decide +kernel
theorem dJ6_stringSize_0f7a4_6 : decode cJ6_stringSize_0f7a4 6 = .ok (.iconst 0, 1) := by decide +kernel
theorem dJ6_stringSize_0f7a4_7 : decode cJ6_stringSize_0f7a4 7 = .ok (.istore_n 1, 1) := by decide +kernel
theorem dJ6_stringSize_0f7a4_8 : decode cJ6_stringSize_0f7a4 8 = .ok (.iload_n 0, 1) := by decide +kernel
theorem dJ6_stringSize_0f7a4_9 : decode cJ6_stringSize_0f7a4 9 = .ok (.ineg, 1) := by decide +kernel
theorem dJ6_stringSize_0f7a4_10 : decode cJ6_stringSize_0f7a4 10 = .ok (.istore_n 0, 1) := by decide +kernel
theorem dJ6_stringSize_0f7a4_11 : decode cJ6_stringSize_0f7a4 11 = .ok (.bipush (-10), 2) := by decide +kernel
theorem dJ6_stringSize_0f7a4_13 : decode cJ6_stringSize_0f7a4 13 = .ok (.istore_n 2, 1) := by decide +kernel
theorem dJ6_stringSize_0f7a4_14 : decode cJ6_stringSize_0f7a4 14 = .ok (.iconst 1, 1) := by decide +kernel
theorem dJ6_stringSize_0f7a4_15 : decode cJ6_stringSize_0f7a4 15 = .ok (.istore_n 3, 1) := by decide +kernel
theorem dJ6_stringSize_0f7a4_16 : decode cJ6_stringSize_0f7a4 16 = .ok (.iload_n 3, 1) := by decide +kernel
theorem dJ6_stringSize_0f7a4_17 : decode cJ6_stringSize_0f7a4 17 = .ok (.bipush 10, 2) := by decide +kernel
theorem dJ6_stringSize_0f7a4_19 : decode cJ6_stringSize_0f7a4 19 = .ok (.if_icmp .ge 23, 3) := by decide +kernel
theorem dJ6_stringSize_0f7a4_22 : decode cJ6_stringSize_0f7a4 22 = .ok (.iload_n 0, 1) := by decide +kernel
theorem dJ6_stringSize_0f7a4_23 : decode cJ6_stringSize_0f7a4 23 = .ok (.iload_n 2, 1) := by decide +kernel
theorem dJ6_stringSize_0f7a4_24 : decode cJ6_stringSize_0f7a4 24 = .ok (.if_icmp .le 7, 3) := by decide +kernel
theorem dJ6_stringSize_0f7a4_27 : decode cJ6_stringSize_0f7a4 27 = .ok (.iload_n 3, 1) := by decide +kernel
theorem dJ6_stringSize_0f7a4_28 : decode cJ6_stringSize_0f7a4 28 = .ok (.iload_n 1, 1) := by decide +kernel
theorem dJ6_stringSize_0f7a4_29 : decode cJ6_stringSize_0f7a4 29 = .ok (.iadd, 1) := by decide +kernel
theorem dJ6_stringSize_0f7a4_30 : decode cJ6_stringSize_0f7a4 30 = .ok (.ireturn, 1) := by decide +kernel
theorem dJ6_stringSize_0f7a4_31 : decode cJ6_stringSize_0f7a4 31 = .ok (.bipush 10, 2) := by decide +kernel
theorem dJ6_stringSize_0f7a4_33 : decode cJ6_stringSize_0f7a4 33 = .ok (.iload_n 2, 1) := by decide +kernel
theorem dJ6_stringSize_0f7a4_34 : decode cJ6_stringSize_0f7a4 34 = .ok (.imul, 1) := by decide +kernel
theorem dJ6_stringSize_0f7a4_35 : decode cJ6_stringSize_0f7a4 35 = .ok (.istore_n 2, 1) := by decide +kernel
theorem dJ6_stringSize_0f7a4_36 : decode cJ6_stringSize_0f7a4 36 = .ok (.iinc 3 1, 3) := by decide +kernel
theorem dJ6_stringSize_0f7a4_39 : decode cJ6_stringSize_0f7a4 39 = .ok (.goto (-23), 3) := by decide +kernel
theorem dJ6_stringSize_0f7a4_42 : decode cJ6_stringSize_0f7a4 42 = .ok (.bipush 10, 2) := by decide +kernel
theorem dJ6_stringSize_0f7a4_44 : decode cJ6_stringSize_0f7a4 44 = .ok (.iload_n 1, 1) := by decide +kernel
theorem dJ6_stringSize_0f7a4_45 : decode cJ6_stringSize_0f7a4 45 = .ok (.iadd, 1) := by decide +kernel
theorem dJ6_stringSize_0f7a4_46 : decode cJ6_stringSize_0f7a4 46 = .ok (.ireturn, 1) := by decide +kernel
theorem dJ6_bitCount_0f7a4_0 : decode cJ6_bitCount_0f7a4 0 = .ok (.iload_n 0, 1) := by decide +kernel
theorem dJ6_bitCount_0f7a4_1 : decode cJ6_bitCount_0f7a4 1 = .ok (.iload_n 0, 1) := by decide +kernel
theorem dJ6_bitCount_0f7a4_2 : decode cJ6_bitCount_0f7a4 2 = .ok (.iconst 1, 1) := by decide +kernel
theorem dJ6_bitCount_0f7a4_3 : decode cJ6_bitCount_0f7a4 3 = .ok (.iushr, 1) := by decide +kernel
theorem dJ6_bitCount_0f7a4_4 : decode cJ6_bitCount_0f7a4 4 = .ok (.ldc_w 265, 3) := by decide +kernel
theorem dJ6_bitCount_0f7a4_7 : decode cJ6_bitCount_0f7a4 7 = .ok (.iand, 1) := by decide +kernel
theorem dJ6_bitCount_0f7a4_8 : decode cJ6_bitCount_0f7a4 8 = .ok (.isub, 1) := by decide +kernel
theorem dJ6_bitCount_0f7a4_9 : decode cJ6_bitCount_0f7a4 9 = .ok (.istore_n 0, 1) := by decide +kernel
theorem dJ6_bitCount_0f7a4_10 : decode cJ6_bitCount_0f7a4 10 = .ok (.iload_n 0, 1) := by decide +kernel
theorem dJ6_bitCount_0f7a4_11 : decode cJ6_bitCount_0f7a4 11 = .ok (.ldc_w 266, 3) := by decide +kernel
theorem dJ6_bitCount_0f7a4_14 : decode cJ6_bitCount_0f7a4 14 = .ok (.iand, 1) := by decide +kernel
theorem dJ6_bitCount_0f7a4_15 : decode cJ6_bitCount_0f7a4 15 = .ok (.iload_n 0, 1) := by decide +kernel
theorem dJ6_bitCount_0f7a4_16 : decode cJ6_bitCount_0f7a4 16 = .ok (.iconst 2, 1) := by decide +kernel
theorem dJ6_bitCount_0f7a4_17 : decode cJ6_bitCount_0f7a4 17 = .ok (.iushr, 1) := by decide +kernel
theorem dJ6_bitCount_0f7a4_18 : decode cJ6_bitCount_0f7a4 18 = .ok (.ldc_w 266, 3) := by decide +kernel
theorem dJ6_bitCount_0f7a4_21 : decode cJ6_bitCount_0f7a4 21 = .ok (.iand, 1) := by decide +kernel
theorem dJ6_bitCount_0f7a4_22 : decode cJ6_bitCount_0f7a4 22 = .ok (.iadd, 1) := by decide +kernel
theorem dJ6_bitCount_0f7a4_23 : decode cJ6_bitCount_0f7a4 23 = .ok (.istore_n 0, 1) := by decide +kernel
theorem dJ6_bitCount_0f7a4_24 : decode cJ6_bitCount_0f7a4 24 = .ok (.iload_n 0, 1) := by decide +kernel
theorem dJ6_bitCount_0f7a4_25 : decode cJ6_bitCount_0f7a4 25 = .ok (.iload_n 0, 1) := by decide +kernel
theorem dJ6_bitCount_0f7a4_26 : decode cJ6_bitCount_0f7a4 26 = .ok (.iconst 4, 1) := by decide +kernel
theorem dJ6_bitCount_0f7a4_27 : decode cJ6_bitCount_0f7a4 27 = .ok (.iushr, 1) := by decide +kernel
theorem dJ6_bitCount_0f7a4_28 : decode cJ6_bitCount_0f7a4 28 = .ok (.iadd, 1) := by decide +kernel
theorem dJ6_bitCount_0f7a4_29 : decode cJ6_bitCount_0f7a4 29 = .ok (.ldc_w 267, 3) := by decide +kernel
theorem dJ6_bitCount_0f7a4_32 : decode cJ6_bitCount_0f7a4 32 = .ok (.iand, 1) := by decide +kernel
theorem dJ6_bitCount_0f7a4_33 : decode cJ6_bitCount_0f7a4 33 = .ok (.istore_n 0, 1) := by decide +kernel
theorem dJ6_bitCount_0f7a4_34 : decode cJ6_bitCount_0f7a4 34 = .ok (.iload_n 0, 1) := by decide +kernel
theorem dJ6_bitCount_0f7a4_35 : decode cJ6_bitCount_0f7a4 35 = .ok (.iload_n 0, 1) := by decide +kernel
theorem dJ6_bitCount_0f7a4_36 : decode cJ6_bitCount_0f7a4 36 = .ok (.bipush 8, 2) := by decide +kernel
theorem dJ6_bitCount_0f7a4_38 : decode cJ6_bitCount_0f7a4 38 = .ok (.iushr, 1) := by decide +kernel
theorem dJ6_bitCount_0f7a4_39 : decode cJ6_bitCount_0f7a4 39 = .ok (.iadd, 1) := by decide +kernel
theorem dJ6_bitCount_0f7a4_40 : decode cJ6_bitCount_0f7a4 40 = .ok (.istore_n 0, 1) := by decide +kernel
theorem dJ6_bitCount_0f7a4_41 : decode cJ6_bitCount_0f7a4 41 = .ok (.iload_n 0, 1) := by decide +kernel
theorem dJ6_bitCount_0f7a4_42 : decode cJ6_bitCount_0f7a4 42 = .ok (.iload_n 0, 1) := by decide +kernel
theorem dJ6_bitCount_0f7a4_43 : decode cJ6_bitCount_0f7a4 43 = .ok (.bipush 16, 2) := by decide +kernel
theorem dJ6_bitCount_0f7a4_45 : decode cJ6_bitCount_0f7a4 45 = .ok (.iushr, 1) := by decide +kernel
theorem dJ6_bitCount_0f7a4_46 : decode cJ6_bitCount_0f7a4 46 = .ok (.iadd, 1) := by decide +kernel
theorem dJ6_bitCount_0f7a4_47 : decode cJ6_bitCount_0f7a4 47 = .ok (.istore_n 0, 1) := by decide +kernel
theorem dJ6_bitCount_0f7a4_48 : decode cJ6_bitCount_0f7a4 48 = .ok (.iload_n 0, 1) := by decide +kernel
theorem dJ6_bitCount_0f7a4_49 : decode cJ6_bitCount_0f7a4 49 = .ok (.bipush 63, 2) := by decide +kernel
theorem dJ6_bitCount_0f7a4_51 : decode cJ6_bitCount_0f7a4 51 = .ok (.iand, 1) := by decide +kernel
theorem dJ6_bitCount_0f7a4_52 : decode cJ6_bitCount_0f7a4 52 = .ok (.ireturn, 1) := by decide +kernel
theorem dJ13_bitCount_95d88_0 : decode cJ13_bitCount_95d88 0 = .ok (.lload_n 0, 1) := by decide +kernel
theorem dJ13_bitCount_95d88_1 : decode cJ13_bitCount_95d88 1 = .ok (.lload_n 0, 1) := by decide +kernel
theorem dJ13_bitCount_95d88_2 : decode cJ13_bitCount_95d88 2 = .ok (.iconst 1, 1) := by decide +kernel
theorem dJ13_bitCount_95d88_3 : decode cJ13_bitCount_95d88 3 = .ok (.lushr, 1) := by decide +kernel
theorem dJ13_bitCount_95d88_4 : decode cJ13_bitCount_95d88 4 = .ok (.ldc2_w 314, 3) := by decide +kernel
theorem dJ13_bitCount_95d88_7 : decode cJ13_bitCount_95d88 7 = .ok (.land, 1) := by decide +kernel
theorem dJ13_bitCount_95d88_8 : decode cJ13_bitCount_95d88 8 = .ok (.lsub, 1) := by decide +kernel
theorem dJ13_bitCount_95d88_9 : decode cJ13_bitCount_95d88 9 = .ok (.lstore_n 0, 1) := by decide +kernel
theorem dJ13_bitCount_95d88_10 : decode cJ13_bitCount_95d88 10 = .ok (.lload_n 0, 1) := by decide +kernel
theorem dJ13_bitCount_95d88_11 : decode cJ13_bitCount_95d88 11 = .ok (.ldc2_w 316, 3) := by decide +kernel
theorem dJ13_bitCount_95d88_14 : decode cJ13_bitCount_95d88 14 = .ok (.land, 1) := by decide +kernel
theorem dJ13_bitCount_95d88_15 : decode cJ13_bitCount_95d88 15 = .ok (.lload_n 0, 1) := by decide +kernel
theorem dJ13_bitCount_95d88_16 : decode cJ13_bitCount_95d88 16 = .ok (.iconst 2, 1) := by decide +kernel
theorem dJ13_bitCount_95d88_17 : decode cJ13_bitCount_95d88 17 = .ok (.lushr, 1) := by decide +kernel
theorem dJ13_bitCount_95d88_18 : decode cJ13_bitCount_95d88 18 = .ok (.ldc2_w 316, 3) := by decide +kernel
theorem dJ13_bitCount_95d88_21 : decode cJ13_bitCount_95d88 21 = .ok (.land, 1) := by decide +kernel
theorem dJ13_bitCount_95d88_22 : decode cJ13_bitCount_95d88 22 = .ok (.ladd, 1) := by decide +kernel
theorem dJ13_bitCount_95d88_23 : decode cJ13_bitCount_95d88 23 = .ok (.lstore_n 0, 1) := by decide +kernel
theorem dJ13_bitCount_95d88_24 : decode cJ13_bitCount_95d88 24 = .ok (.lload_n 0, 1) := by decide +kernel
theorem dJ13_bitCount_95d88_25 : decode cJ13_bitCount_95d88 25 = .ok (.lload_n 0, 1) := by decide +kernel
theorem dJ13_bitCount_95d88_26 : decode cJ13_bitCount_95d88 26 = .ok (.iconst 4, 1) := by decide +kernel
theorem dJ13_bitCount_95d88_27 : decode cJ13_bitCount_95d88 27 = .ok (.lushr, 1) := by decide +kernel
theorem dJ13_bitCount_95d88_28 : decode cJ13_bitCount_95d88 28 = .ok (.ladd, 1) := by decide +kernel
theorem dJ13_bitCount_95d88_29 : decode cJ13_bitCount_95d88 29 = .ok (.ldc2_w 318, 3) := by decide +kernel
theorem dJ13_bitCount_95d88_32 : decode cJ13_bitCount_95d88 32 = .ok (.land, 1) := by decide +kernel
theorem dJ13_bitCount_95d88_33 : decode cJ13_bitCount_95d88 33 = .ok (.lstore_n 0, 1) := by decide +kernel
theorem dJ13_bitCount_95d88_34 : decode cJ13_bitCount_95d88 34 = .ok (.lload_n 0, 1) := by decide +kernel
theorem dJ13_bitCount_95d88_35 : decode cJ13_bitCount_95d88 35 = .ok (.lload_n 0, 1) := by decide +kernel
theorem dJ13_bitCount_95d88_36 : decode cJ13_bitCount_95d88 36 = .ok (.bipush 8, 2) := by decide +kernel
theorem dJ13_bitCount_95d88_38 : decode cJ13_bitCount_95d88 38 = .ok (.lushr, 1) := by decide +kernel
theorem dJ13_bitCount_95d88_39 : decode cJ13_bitCount_95d88 39 = .ok (.ladd, 1) := by decide +kernel
theorem dJ13_bitCount_95d88_40 : decode cJ13_bitCount_95d88 40 = .ok (.lstore_n 0, 1) := by decide +kernel
theorem dJ13_bitCount_95d88_41 : decode cJ13_bitCount_95d88 41 = .ok (.lload_n 0, 1) := by decide +kernel
theorem dJ13_bitCount_95d88_42 : decode cJ13_bitCount_95d88 42 = .ok (.lload_n 0, 1) := by decide +kernel
theorem dJ13_bitCount_95d88_43 : decode cJ13_bitCount_95d88 43 = .ok (.bipush 16, 2) := by decide +kernel
theorem dJ13_bitCount_95d88_45 : decode cJ13_bitCount_95d88 45 = .ok (.lushr, 1) := by decide +kernel
theorem dJ13_bitCount_95d88_46 : decode cJ13_bitCount_95d88 46 = .ok (.ladd, 1) := by decide +kernel
theorem dJ13_bitCount_95d88_47 : decode cJ13_bitCount_95d88 47 = .ok (.lstore_n 0, 1) := by decide +kernel
theorem dJ13_bitCount_95d88_48 : decode cJ13_bitCount_95d88 48 = .ok (.lload_n 0, 1) := by decide +kernel
theorem dJ13_bitCount_95d88_49 : decode cJ13_bitCount_95d88 49 = .ok (.lload_n 0, 1) := by decide +kernel
theorem dJ13_bitCount_95d88_50 : decode cJ13_bitCount_95d88 50 = .ok (.bipush 32, 2) := by decide +kernel
theorem dJ13_bitCount_95d88_52 : decode cJ13_bitCount_95d88 52 = .ok (.lushr, 1) := by decide +kernel
theorem dJ13_bitCount_95d88_53 : decode cJ13_bitCount_95d88 53 = .ok (.ladd, 1) := by decide +kernel
theorem dJ13_bitCount_95d88_54 : decode cJ13_bitCount_95d88 54 = .ok (.lstore_n 0, 1) := by decide +kernel
theorem dJ13_bitCount_95d88_55 : decode cJ13_bitCount_95d88 55 = .ok (.lload_n 0, 1) := by decide +kernel
theorem dJ13_bitCount_95d88_56 : decode cJ13_bitCount_95d88 56 = .ok (.l2i, 1) := by decide +kernel
theorem dJ13_bitCount_95d88_57 : decode cJ13_bitCount_95d88 57 = .ok (.bipush 127, 2) := by decide +kernel
theorem dJ13_bitCount_95d88_59 : decode cJ13_bitCount_95d88 59 = .ok (.iand, 1) := by decide +kernel
theorem dJ13_bitCount_95d88_60 : decode cJ13_bitCount_95d88 60 = .ok (.ireturn, 1) := by decide +kernel
theorem dJ9_max_7cf53_0 : decode cJ9_max_7cf53 0 = .ok (.iload_n 0, 1) := by decide +kernel
theorem dJ9_max_7cf53_1 : decode cJ9_max_7cf53 1 = .ok (.iload_n 1, 1) := by decide +kernel
theorem dJ9_max_7cf53_2 : decode cJ9_max_7cf53 2 = .ok (.if_icmp .lt 7, 3) := by decide +kernel
theorem dJ9_max_7cf53_5 : decode cJ9_max_7cf53 5 = .ok (.iload_n 0, 1) := by decide +kernel
theorem dJ9_max_7cf53_6 : decode cJ9_max_7cf53 6 = .ok (.goto 4, 3) := by decide +kernel
theorem dJ9_max_7cf53_9 : decode cJ9_max_7cf53 9 = .ok (.iload_n 1, 1) := by decide +kernel
theorem dJ9_max_7cf53_10 : decode cJ9_max_7cf53 10 = .ok (.ireturn, 1) := by decide +kernel
theorem dJ9_min_7cf53_0 : decode cJ9_min_7cf53 0 = .ok (.iload_n 0, 1) := by decide +kernel
theorem dJ9_min_7cf53_1 : decode cJ9_min_7cf53 1 = .ok (.iload_n 1, 1) := by decide +kernel
theorem dJ9_min_7cf53_2 : decode cJ9_min_7cf53 2 = .ok (.if_icmp .gt 7, 3) := by decide +kernel
theorem dJ9_min_7cf53_5 : decode cJ9_min_7cf53 5 = .ok (.iload_n 0, 1) := by decide +kernel
theorem dJ9_min_7cf53_6 : decode cJ9_min_7cf53 6 = .ok (.goto 4, 3) := by decide +kernel
theorem dJ9_min_7cf53_9 : decode cJ9_min_7cf53 9 = .ok (.iload_n 1, 1) := by decide +kernel
theorem dJ9_min_7cf53_10 : decode cJ9_min_7cf53 10 = .ok (.ireturn, 1) := by decide +kernel
theorem dJ0_init_81219_0 : decode cJ0_init_81219 0 = .ok (.aload_n 0, 1) := by decide +kernel
theorem dJ0_init_81219_1 : decode cJ0_init_81219 1 = .ok (.aload_n 1, 1) := by decide +kernel
theorem dJ0_init_81219_2 : decode cJ0_init_81219 2 = .ok (.aconst_null, 1) := by decide +kernel
theorem dJ0_init_81219_3 : decode cJ0_init_81219 3 = .ok (.invokespecial 489, 3) := by decide +kernel
theorem dJ0_init_81219_6 : decode cJ0_init_81219 6 = .ok (.return_, 1) := by decide +kernel
theorem dJ0_length_8abf5_0 : decode cJ0_length_8abf5 0 = .ok (.aload_n 0, 1) := by decide +kernel
theorem dJ0_length_8abf5_1 : decode cJ0_length_8abf5 1 = .ok (.getfield 9, 3) := by decide +kernel
theorem dJ0_length_8abf5_4 : decode cJ0_length_8abf5 4 = .ok (.arraylength, 1) := by decide +kernel
theorem dJ0_length_8abf5_5 : decode cJ0_length_8abf5 5 = .ok (.aload_n 0, 1) := by decide +kernel
theorem dJ0_length_8abf5_6 : decode cJ0_length_8abf5 6 = .ok (.invokevirtual 335, 3) := by decide +kernel
theorem dJ0_length_8abf5_9 : decode cJ0_length_8abf5 9 = .ok (.ishr, 1) := by decide +kernel
theorem dJ0_length_8abf5_10 : decode cJ0_length_8abf5 10 = .ok (.ireturn, 1) := by decide +kernel
theorem dJ0_equals_9ea2d_0 : decode cJ0_equals_9ea2d 0 = .ok (.aload_n 0, 1) := by decide +kernel
theorem dJ0_equals_9ea2d_1 : decode cJ0_equals_9ea2d 1 = .ok (.aload_n 1, 1) := by decide +kernel
theorem dJ0_equals_9ea2d_2 : decode cJ0_equals_9ea2d 2 = .ok (.if_acmp .ne 5, 3) := by decide +kernel
theorem dJ0_equals_9ea2d_5 : decode cJ0_equals_9ea2d 5 = .ok (.iconst 1, 1) := by decide +kernel
theorem dJ0_equals_9ea2d_6 : decode cJ0_equals_9ea2d 6 = .ok (.ireturn, 1) := by decide +kernel
theorem dJ0_equals_9ea2d_7 : decode cJ0_equals_9ea2d 7 = .ok (.aload_n 1, 1) := by decide +kernel
theorem dJ0_equals_9ea2d_8 : decode cJ0_equals_9ea2d 8 = .ok (.instanceof 10, 3) := by decide +kernel
theorem dJ0_equals_9ea2d_11 : decode cJ0_equals_9ea2d 11 = .ok (.ifCond .eq 43, 3) := by decide +kernel
theorem dJ0_equals_9ea2d_14 : decode cJ0_equals_9ea2d 14 = .ok (.aload_n 1, 1) := by decide +kernel
theorem dJ0_equals_9ea2d_15 : decode cJ0_equals_9ea2d 15 = .ok (.checkcast 10, 3) := by decide +kernel
theorem dJ0_equals_9ea2d_18 : decode cJ0_equals_9ea2d 18 = .ok (.astore_n 2, 1) := by decide +kernel
theorem dJ0_equals_9ea2d_19 : decode cJ0_equals_9ea2d 19 = .ok (.getstatic 38, 3) := by decide +kernel
theorem dJ0_equals_9ea2d_22 : decode cJ0_equals_9ea2d 22 = .ok (.ifCond .eq 14, 3) := by decide +kernel
theorem dJ0_equals_9ea2d_25 : decode cJ0_equals_9ea2d 25 = .ok (.aload_n 0, 1) := by decide +kernel
theorem dJ0_equals_9ea2d_26 : decode cJ0_equals_9ea2d 26 = .ok (.getfield 15, 3) := by decide +kernel
theorem dJ0_equals_9ea2d_29 : decode cJ0_equals_9ea2d 29 = .ok (.aload_n 2, 1) := by decide +kernel
theorem dJ0_equals_9ea2d_30 : decode cJ0_equals_9ea2d 30 = .ok (.getfield 15, 3) := by decide +kernel
theorem dJ0_equals_9ea2d_33 : decode cJ0_equals_9ea2d 33 = .ok (.if_icmp .ne 21, 3) := by decide +kernel
theorem dJ0_equals_9ea2d_36 : decode cJ0_equals_9ea2d 36 = .ok (.aload_n 0, 1) := by decide +kernel
theorem dJ0_equals_9ea2d_37 : decode cJ0_equals_9ea2d 37 = .ok (.getfield 9, 3) := by decide +kernel
theorem dJ0_equals_9ea2d_40 : decode cJ0_equals_9ea2d 40 = .ok (.aload_n 2, 1) := by decide +kernel
theorem dJ0_equals_9ea2d_41 : decode cJ0_equals_9ea2d 41 = .ok (.getfield 9, 3) := by decide +kernel
theorem dJ0_equals_9ea2d_44 : decode cJ0_equals_9ea2d 44 = .ok (.invokestatic 541, 3) := by decide +kernel
theorem dJ0_equals_9ea2d_47 : decode cJ0_equals_9ea2d 47 = .ok (.ifCond .eq 7, 3) := by decide +kernel
theorem dJ0_equals_9ea2d_50 : decode cJ0_equals_9ea2d 50 = .ok (.iconst 1, 1) := by decide +kernel
theorem dJ0_equals_9ea2d_51 : decode cJ0_equals_9ea2d 51 = .ok (.goto 4, 3) := by decide +kernel
theorem dJ0_equals_9ea2d_54 : decode cJ0_equals_9ea2d 54 = .ok (.iconst 0, 1) := by decide +kernel
theorem dJ0_equals_9ea2d_55 : decode cJ0_equals_9ea2d 55 = .ok (.ireturn, 1) := by decide +kernel
theorem dJ0_getBytes_840e7_0 : decode cJ0_getBytes_840e7 0 = .ok (.aload_n 0, 1) := by decide +kernel
theorem dJ0_getBytes_840e7_1 : decode cJ0_getBytes_840e7 1 = .ok (.invokevirtual 335, 3) := by decide +kernel
theorem dJ0_getBytes_840e7_4 : decode cJ0_getBytes_840e7 4 = .ok (.iload_n 3, 1) := by decide +kernel
theorem dJ0_getBytes_840e7_5 : decode cJ0_getBytes_840e7 5 = .ok (.if_icmp .ne 23, 3) := by decide +kernel
theorem dJ0_getBytes_840e7_8 : decode cJ0_getBytes_840e7 8 = .ok (.aload_n 0, 1) := by decide +kernel
theorem dJ0_getBytes_840e7_9 : decode cJ0_getBytes_840e7 9 = .ok (.getfield 9, 3) := by decide +kernel
theorem dJ0_getBytes_840e7_12 : decode cJ0_getBytes_840e7 12 = .ok (.iconst 0, 1) := by decide +kernel
theorem dJ0_getBytes_840e7_13 : decode cJ0_getBytes_840e7 13 = .ok (.aload_n 1, 1) := by decide +kernel
theorem dJ0_getBytes_840e7_14 : decode cJ0_getBytes_840e7 14 = .ok (.iload_n 2, 1) := by decide +kernel
theorem dJ0_getBytes_840e7_15 : decode cJ0_getBytes_840e7 15 = .ok (.iload_n 3, 1) := by decide +kernel
theorem dJ0_getBytes_840e7_16 : decode cJ0_getBytes_840e7 16 = .ok (.ishl, 1) := by decide +kernel
theorem dJ0_getBytes_840e7_17 : decode cJ0_getBytes_840e7 17 = .ok (.aload_n 0, 1) := by decide +kernel
theorem dJ0_getBytes_840e7_18 : decode cJ0_getBytes_840e7 18 = .ok (.getfield 9, 3) := by decide +kernel
theorem dJ0_getBytes_840e7_21 : decode cJ0_getBytes_840e7 21 = .ok (.arraylength, 1) := by decide +kernel
theorem dJ0_getBytes_840e7_22 : decode cJ0_getBytes_840e7 22 = .ok (.invokestatic 212, 3) := by decide +kernel
theorem dJ0_getBytes_840e7_25 : decode cJ0_getBytes_840e7 25 = .ok (.goto 18, 3) := by decide +kernel
theorem dJ0_getBytes_840e7_28 : decode cJ0_getBytes_840e7 28 = .ok (.aload_n 0, 1) := by decide +kernel
theorem dJ0_getBytes_840e7_29 : decode cJ0_getBytes_840e7 29 = .ok (.getfield 9, 3) := by decide +kernel
theorem dJ0_getBytes_840e7_32 : decode cJ0_getBytes_840e7 32 = .ok (.iconst 0, 1) := by decide +kernel
theorem dJ0_getBytes_840e7_33 : decode cJ0_getBytes_840e7 33 = .ok (.aload_n 1, 1) := by decide +kernel
theorem dJ0_getBytes_840e7_34 : decode cJ0_getBytes_840e7 34 = .ok (.iload_n 2, 1) := by decide +kernel
theorem dJ0_getBytes_840e7_35 : decode cJ0_getBytes_840e7 35 = .ok (.aload_n 0, 1) := by decide +kernel
theorem dJ0_getBytes_840e7_36 : decode cJ0_getBytes_840e7 36 = .ok (.getfield 9, 3) := by decide +kernel
theorem dJ0_getBytes_840e7_39 : decode cJ0_getBytes_840e7 39 = .ok (.arraylength, 1) := by decide +kernel
theorem dJ0_getBytes_840e7_40 : decode cJ0_getBytes_840e7 40 = .ok (.invokestatic 106, 3) := by decide +kernel
theorem dJ0_getBytes_840e7_43 : decode cJ0_getBytes_840e7 43 = .ok (.return_, 1) := by decide +kernel
theorem dJ0_init_db425_0 : decode cJ0_init_db425 0 = .ok (.aload_n 0, 1) := by decide +kernel
theorem dJ0_init_db425_1 : decode cJ0_init_db425 1 = .ok (.invokespecial 1, 3) := by decide +kernel
theorem dJ0_init_db425_4 : decode cJ0_init_db425 4 = .ok (.aload_n 1, 1) := by decide +kernel
theorem dJ0_init_db425_5 : decode cJ0_init_db425 5 = .ok (.invokevirtual 552, 3) := by decide +kernel
theorem dJ0_init_db425_8 : decode cJ0_init_db425 8 = .ok (.astore_n 3, 1) := by decide +kernel
theorem dJ0_init_db425_9 : decode cJ0_init_db425 9 = .ok (.aload_n 1, 1) := by decide +kernel
theorem dJ0_init_db425_10 : decode cJ0_init_db425 10 = .ok (.invokevirtual 549, 3) := by decide +kernel
theorem dJ0_init_db425_13 : decode cJ0_init_db425 13 = .ok (.istore 4, 2) := by decide +kernel
theorem dJ0_init_db425_15 : decode cJ0_init_db425 15 = .ok (.aload_n 1, 1) := by decide +kernel
theorem dJ0_init_db425_16 : decode cJ0_init_db425 16 = .ok (.invokevirtual 1047, 3) := by decide +kernel
theorem dJ0_init_db425_19 : decode cJ0_init_db425 19 = .ok (.ifCond .eq 22, 3) := by decide +kernel
theorem dJ0_init_db425_22 : decode cJ0_init_db425 22 = .ok (.aload_n 0, 1) := by decide +kernel
theorem dJ0_init_db425_23 : decode cJ0_init_db425 23 = .ok (.iconst 0, 1) := by decide +kernel
theorem dJ0_init_db425_24 : decode cJ0_init_db425 24 = .ok (.putfield 15, 3) := by decide +kernel
theorem dJ0_init_db425_27 : decode cJ0_init_db425 27 = .ok (.aload_n 0, 1) := by decide +kernel
theorem dJ0_init_db425_28 : decode cJ0_init_db425 28 = .ok (.aload_n 3, 1) := by decide +kernel
theorem dJ0_init_db425_29 : decode cJ0_init_db425 29 = .ok (.iconst 0, 1) := by decide +kernel
theorem dJ0_init_db425_30 : decode cJ0_init_db425 30 = .ok (.iload 4, 2) := by decide +kernel
theorem dJ0_init_db425_32 : decode cJ0_init_db425 32 = .ok (.invokestatic 54, 3) := by decide +kernel
theorem dJ0_init_db425_35 : decode cJ0_init_db425 35 = .ok (.putfield 9, 3) := by decide +kernel
theorem dJ0_init_db425_38 : decode cJ0_init_db425 38 = .ok (.goto 59, 3) := by decide +kernel
theorem dJ0_init_db425_41 : decode cJ0_init_db425 41 = .ok (.getstatic 38, 3) := by decide +kernel
theorem dJ0_init_db425_44 : decode cJ0_init_db425 44 = .ok (.ifCond .eq 35, 3) := by decide +kernel
theorem dJ0_init_db425_47 : decode cJ0_init_db425 47 = .ok (.aload_n 1, 1) := by decide +kernel
theorem dJ0_init_db425_48 : decode cJ0_init_db425 48 = .ok (.getfield 1048, 3) := by decide +kernel
theorem dJ0_init_db425_51 : decode cJ0_init_db425 51 = .ok (.ifCond .eq 28, 3) := by decide +kernel
theorem dJ0_init_db425_54 : decode cJ0_init_db425 54 = .ok (.aload_n 0, 1) := by decide +kernel
theorem dJ0_init_db425_55 : decode cJ0_init_db425 55 = .ok (.aload_n 3, 1) := by decide +kernel
theorem dJ0_init_db425_56 : decode cJ0_init_db425 56 = .ok (.iconst 0, 1) := by decide +kernel
theorem dJ0_init_db425_57 : decode cJ0_init_db425 57 = .ok (.iload 4, 2) := by decide +kernel
theorem dJ0_init_db425_59 : decode cJ0_init_db425 59 = .ok (.invokestatic 1051, 3) := by decide +kernel
theorem dJ0_init_db425_62 : decode cJ0_init_db425 62 = .ok (.putfield 9, 3) := by decide +kernel
theorem dJ0_init_db425_65 : decode cJ0_init_db425 65 = .ok (.aload_n 0, 1) := by decide +kernel
theorem dJ0_init_db425_66 : decode cJ0_init_db425 66 = .ok (.aload_n 0, 1) := by decide +kernel
theorem dJ0_init_db425_67 : decode cJ0_init_db425 67 = .ok (.getfield 9, 3) := by decide +kernel
theorem dJ0_init_db425_70 : decode cJ0_init_db425 70 = .ok (.iload 4, 2) := by decide +kernel
theorem dJ0_init_db425_72 : decode cJ0_init_db425 72 = .ok (.invokestatic 47, 3) := by decide +kernel
theorem dJ0_init_db425_75 : decode cJ0_init_db425 75 = .ok (.putfield 15, 3) := by decide +kernel
theorem dJ0_init_db425_78 : decode cJ0_init_db425 78 = .ok (.return_, 1) := by decide +kernel
theorem dJ0_init_db425_79 : decode cJ0_init_db425 79 = .ok (.aload_n 0, 1) := by decide +kernel
theorem dJ0_init_db425_80 : decode cJ0_init_db425 80 = .ok (.iconst 1, 1) := by decide +kernel
theorem dJ0_init_db425_81 : decode cJ0_init_db425 81 = .ok (.putfield 15, 3) := by decide +kernel
theorem dJ0_init_db425_84 : decode cJ0_init_db425 84 = .ok (.aload_n 0, 1) := by decide +kernel
theorem dJ0_init_db425_85 : decode cJ0_init_db425 85 = .ok (.aload_n 3, 1) := by decide +kernel
theorem dJ0_init_db425_86 : decode cJ0_init_db425 86 = .ok (.iconst 0, 1) := by decide +kernel
theorem dJ0_init_db425_87 : decode cJ0_init_db425 87 = .ok (.iload 4, 2) := by decide +kernel
theorem dJ0_init_db425_89 : decode cJ0_init_db425 89 = .ok (.iconst 1, 1) := by decide +kernel
theorem dJ0_init_db425_90 : decode cJ0_init_db425 90 = .ok (.ishl, 1) := by decide +kernel
theorem dJ0_init_db425_91 : decode cJ0_init_db425 91 = .ok (.invokestatic 54, 3) := by decide +kernel
theorem dJ0_init_db425_94 : decode cJ0_init_db425 94 = .ok (.putfield 9, 3) := by decide +kernel
theorem dJ0_init_db425_97 : decode cJ0_init_db425 97 = .ok (.return_, 1) := by decide +kernel
theorem dJ0_coder_7d493_0 : decode cJ0_coder_7d493 0 = .ok (.getstatic 38, 3) := by decide +kernel
theorem dJ0_coder_7d493_3 : decode cJ0_coder_7d493 3 = .ok (.ifCond .eq 10, 3) := by decide +kernel
theorem dJ0_coder_7d493_6 : decode cJ0_coder_7d493 6 = .ok (.aload_n 0, 1) := by decide +kernel
theorem dJ0_coder_7d493_7 : decode cJ0_coder_7d493 7 = .ok (.getfield 15, 3) := by decide +kernel
theorem dJ0_coder_7d493_10 : decode cJ0_coder_7d493 10 = .ok (.goto 4, 3) := by decide +kernel
theorem dJ0_coder_7d493_13 : decode cJ0_coder_7d493 13 = .ok (.iconst 1, 1) := by decide +kernel
theorem dJ0_coder_7d493_14 : decode cJ0_coder_7d493 14 = .ok (.ireturn, 1) := by decide +kernel
theorem dJ0_checkIndex_df160_0 : decode cJ0_checkIndex_df160 0 = .ok (.iload_n 0, 1) := by decide +kernel
theorem dJ0_checkIndex_df160_1 : decode cJ0_checkIndex_df160 1 = .ok (.iload_n 1, 1) := by decide +kernel
theorem dJ0_checkIndex_df160_2 : decode cJ0_checkIndex_df160 2 = .ok (.getstatic 1053, 3) := by decide +kernel
theorem dJ0_checkIndex_df160_5 : decode cJ0_checkIndex_df160 5 = .ok (.invokestatic 1059, 3) := by decide +kernel
theorem dJ0_checkIndex_df160_8 : decode cJ0_checkIndex_df160 8 = .ok (.pop, 1) := by decide +kernel
theorem dJ0_checkIndex_df160_9 : decode cJ0_checkIndex_df160 9 = .ok (.return_, 1) := by decide +kernel
theorem dJ0_checkBoundsOffCount_cabcc_0 : decode cJ0_checkBoundsOffCount_cabcc 0 = .ok (.iload_n 0, 1) := by decide +kernel
theorem dJ0_checkBoundsOffCount_cabcc_1 : decode cJ0_checkBoundsOffCount_cabcc 1 = .ok (.iload_n 1, 1) := by decide +kernel
theorem dJ0_checkBoundsOffCount_cabcc_2 : decode cJ0_checkBoundsOffCount_cabcc 2 = .ok (.iload_n 2, 1) := by decide +kernel
theorem dJ0_checkBoundsOffCount_cabcc_3 : decode cJ0_checkBoundsOffCount_cabcc 3 = .ok (.getstatic 1053, 3) := by decide +kernel
theorem dJ0_checkBoundsOffCount_cabcc_6 : decode cJ0_checkBoundsOffCount_cabcc 6 = .ok (.invokestatic 1065, 3) := by decide +kernel
theorem dJ0_checkBoundsOffCount_cabcc_9 : decode cJ0_checkBoundsOffCount_cabcc 9 = .ok (.ireturn, 1) := by decide +kernel
theorem dJ0_checkBoundsBeginEnd_23922_0 : decode cJ0_checkBoundsBeginEnd_23922 0 = .ok (.iload_n 0, 1) := by decide +kernel
theorem dJ0_checkBoundsBeginEnd_23922_1 : decode cJ0_checkBoundsBeginEnd_23922 1 = .ok (.iload_n 1, 1) := by decide +kernel
theorem dJ0_checkBoundsBeginEnd_23922_2 : decode cJ0_checkBoundsBeginEnd_23922 2 = .ok (.iload_n 2, 1) := by decide +kernel
theorem dJ0_checkBoundsBeginEnd_23922_3 : decode cJ0_checkBoundsBeginEnd_23922 3 = .ok (.getstatic 1053, 3) := by decide +kernel
theorem dJ0_checkBoundsBeginEnd_23922_6 : decode cJ0_checkBoundsBeginEnd_23922 6 = .ok (.invokestatic 1062, 3) := by decide +kernel
theorem dJ0_checkBoundsBeginEnd_23922_9 : decode cJ0_checkBoundsBeginEnd_23922 9 = .ok (.pop, 1) := by decide +kernel
theorem dJ0_checkBoundsBeginEnd_23922_10 : decode cJ0_checkBoundsBeginEnd_23922 10 = .ok (.return_, 1) := by decide +kernel
theorem dJ4_init_da8c8_0 : decode cJ4_init_da8c8 0 = .ok (.aload_n 0, 1) := by decide +kernel
theorem dJ4_init_da8c8_1 : decode cJ4_init_da8c8 1 = .ok (.bipush 16, 2) := by decide +kernel
theorem dJ4_init_da8c8_3 : decode cJ4_init_da8c8 3 = .ok (.invokespecial 1, 3) := by decide +kernel
theorem dJ4_init_da8c8_6 : decode cJ4_init_da8c8 6 = .ok (.return_, 1) := by decide +kernel
theorem dJ4_append_15ec4_0 : decode cJ4_append_15ec4 0 = .ok (.aload_n 0, 1) := by decide +kernel
theorem dJ4_append_15ec4_1 : decode cJ4_append_15ec4 1 = .ok (.aload_n 1, 1) := by decide +kernel
theorem dJ4_append_15ec4_2 : decode cJ4_append_15ec4 2 = .ok (.invokespecial 29, 3) := by decide +kernel
theorem dJ4_append_15ec4_5 : decode cJ4_append_15ec4 5 = .ok (.pop, 1) := by decide +kernel
theorem dJ4_append_15ec4_6 : decode cJ4_append_15ec4 6 = .ok (.aload_n 0, 1) := by decide +kernel
theorem dJ4_append_15ec4_7 : decode cJ4_append_15ec4 7 = .ok (.areturn, 1) := by decide +kernel
theorem dJ4_append_cf468_0 : decode cJ4_append_cf468 0 = .ok (.aload_n 0, 1) := by decide +kernel
theorem dJ4_append_cf468_1 : decode cJ4_append_cf468 1 = .ok (.iload_n 1, 1) := by decide +kernel
theorem dJ4_append_cf468_2 : decode cJ4_append_cf468 2 = .ok (.invokespecial 50, 3) := by decide +kernel
theorem dJ4_append_cf468_5 : decode cJ4_append_cf468 5 = .ok (.pop, 1) := by decide +kernel
theorem dJ4_append_cf468_6 : decode cJ4_append_cf468 6 = .ok (.aload_n 0, 1) := by decide +kernel
theorem dJ4_append_cf468_7 : decode cJ4_append_cf468 7 = .ok (.areturn, 1) := by decide +kernel
theorem dJ4_append_bf812_0 : decode cJ4_append_bf812 0 = .ok (.aload_n 0, 1) := by decide +kernel
theorem dJ4_append_bf812_1 : decode cJ4_append_bf812 1 = .ok (.iload_n 1, 1) := by decide +kernel
theorem dJ4_append_bf812_2 : decode cJ4_append_bf812 2 = .ok (.invokespecial 53, 3) := by decide +kernel
theorem dJ4_append_bf812_5 : decode cJ4_append_bf812 5 = .ok (.pop, 1) := by decide +kernel
theorem dJ4_append_bf812_6 : decode cJ4_append_bf812 6 = .ok (.aload_n 0, 1) := by decide +kernel
theorem dJ4_append_bf812_7 : decode cJ4_append_bf812 7 = .ok (.areturn, 1) := by decide +kernel
theorem dJ4_toString_0e30d_0 : decode cJ4_toString_0e30d 0 = .ok (.new 18, 3) := by decide +kernel
theorem dJ4_toString_0e30d_3 : decode cJ4_toString_0e30d 3 = .ok (.dup, 1) := by decide +kernel
theorem dJ4_toString_0e30d_4 : decode cJ4_toString_0e30d 4 = .ok (.aload_n 0, 1) := by decide +kernel
theorem dJ4_toString_0e30d_5 : decode cJ4_toString_0e30d 5 = .ok (.invokespecial 137, 3) := by decide +kernel
theorem dJ4_toString_0e30d_8 : decode cJ4_toString_0e30d 8 = .ok (.areturn, 1) := by decide +kernel
theorem dJ4_length_8abf5_0 : decode cJ4_length_8abf5 0 = .ok (.aload_n 0, 1) := by decide +kernel
theorem dJ4_length_8abf5_1 : decode cJ4_length_8abf5 1 = .ok (.invokespecial 343, 3) := by decide +kernel
theorem dJ4_length_8abf5_4 : decode cJ4_length_8abf5 4 = .ok (.ireturn, 1) := by decide +kernel
theorem dJ1_canEncode_fc78d_0 : decode cJ1_canEncode_fc78d 0 = .ok (.iload_n 0, 1) := by decide +kernel
theorem dJ1_canEncode_fc78d_1 : decode cJ1_canEncode_fc78d 1 = .ok (.sipush 255, 3) := by decide +kernel
theorem dJ1_canEncode_fc78d_4 : decode cJ1_canEncode_fc78d 4 = .ok (.if_icmp .gt 7, 3) := by decide +kernel
theorem dJ1_canEncode_fc78d_7 : decode cJ1_canEncode_fc78d 7 = .ok (.iconst 1, 1) := by decide +kernel
theorem dJ1_canEncode_fc78d_8 : decode cJ1_canEncode_fc78d 8 = .ok (.goto 4, 3) := by decide +kernel
theorem dJ1_canEncode_fc78d_11 : decode cJ1_canEncode_fc78d 11 = .ok (.iconst 0, 1) := by decide +kernel
theorem dJ1_canEncode_fc78d_12 : decode cJ1_canEncode_fc78d 12 = .ok (.ireturn, 1) := by decide +kernel
theorem dJ1_equals_b5fdf_0 : decode cJ1_equals_b5fdf 0 = .ok (.aload_n 0, 1) := by decide +kernel
theorem dJ1_equals_b5fdf_1 : decode cJ1_equals_b5fdf 1 = .ok (.arraylength, 1) := by decide +kernel
theorem dJ1_equals_b5fdf_2 : decode cJ1_equals_b5fdf 2 = .ok (.aload_n 1, 1) := by decide +kernel
theorem dJ1_equals_b5fdf_3 : decode cJ1_equals_b5fdf 3 = .ok (.arraylength, 1) := by decide +kernel
theorem dJ1_equals_b5fdf_4 : decode cJ1_equals_b5fdf 4 = .ok (.if_icmp .ne 30, 3) := by decide +kernel
theorem dJ1_equals_b5fdf_7 : decode cJ1_equals_b5fdf 7 = .ok (.iconst 0, 1) := by decide +kernel
theorem dJ1_equals_b5fdf_8 : decode cJ1_equals_b5fdf 8 = .ok (.istore_n 2, 1) := by decide +kernel
theorem dJ1_equals_b5fdf_9 : decode cJ1_equals_b5fdf 9 = .ok (.iload_n 2, 1) := by decide +kernel
theorem dJ1_equals_b5fdf_10 : decode cJ1_equals_b5fdf 10 = .ok (.aload_n 0, 1) := by decide +kernel
theorem dJ1_equals_b5fdf_11 : decode cJ1_equals_b5fdf 11 = .ok (.arraylength, 1) := by decide +kernel
theorem dJ1_equals_b5fdf_12 : decode cJ1_equals_b5fdf 12 = .ok (.if_icmp .ge 20, 3) := by decide +kernel
theorem dJ1_equals_b5fdf_15 : decode cJ1_equals_b5fdf 15 = .ok (.aload_n 0, 1) := by decide +kernel
theorem dJ1_equals_b5fdf_16 : decode cJ1_equals_b5fdf 16 = .ok (.iload_n 2, 1) := by decide +kernel
theorem dJ1_equals_b5fdf_17 : decode cJ1_equals_b5fdf 17 = .ok (.baload, 1) := by decide +kernel
theorem dJ1_equals_b5fdf_18 : decode cJ1_equals_b5fdf 18 = .ok (.aload_n 1, 1) := by decide +kernel
theorem dJ1_equals_b5fdf_19 : decode cJ1_equals_b5fdf 19 = .ok (.iload_n 2, 1) := by decide +kernel
theorem dJ1_equals_b5fdf_20 : decode cJ1_equals_b5fdf 20 = .ok (.baload, 1) := by decide +kernel
theorem dJ1_equals_b5fdf_21 : decode cJ1_equals_b5fdf 21 = .ok (.if_icmp .eq 5, 3) := by decide +kernel
theorem dJ1_equals_b5fdf_24 : decode cJ1_equals_b5fdf 24 = .ok (.iconst 0, 1) := by decide +kernel
theorem dJ1_equals_b5fdf_25 : decode cJ1_equals_b5fdf 25 = .ok (.ireturn, 1) := by decide +kernel
theorem dJ1_equals_b5fdf_26 : decode cJ1_equals_b5fdf 26 = .ok (.iinc 2 1, 3) := by decide +kernel
theorem dJ1_equals_b5fdf_29 : decode cJ1_equals_b5fdf 29 = .ok (.goto (-20), 3) := by decide +kernel
theorem dJ1_equals_b5fdf_32 : decode cJ1_equals_b5fdf 32 = .ok (.iconst 1, 1) := by decide +kernel
theorem dJ1_equals_b5fdf_33 : decode cJ1_equals_b5fdf 33 = .ok (.ireturn, 1) := by decide +kernel
theorem dJ1_equals_b5fdf_34 : decode cJ1_equals_b5fdf 34 = .ok (.iconst 0, 1) := by decide +kernel
theorem dJ1_equals_b5fdf_35 : decode cJ1_equals_b5fdf 35 = .ok (.ireturn, 1) := by decide +kernel
theorem dJ1_inflate_0e8fd_0 : decode cJ1_inflate_0e8fd 0 = .ok (.aload_n 0, 1) := by decide +kernel
theorem dJ1_inflate_0e8fd_1 : decode cJ1_inflate_0e8fd 1 = .ok (.iload_n 1, 1) := by decide +kernel
theorem dJ1_inflate_0e8fd_2 : decode cJ1_inflate_0e8fd 2 = .ok (.aload_n 2, 1) := by decide +kernel
theorem dJ1_inflate_0e8fd_3 : decode cJ1_inflate_0e8fd 3 = .ok (.iload_n 3, 1) := by decide +kernel
theorem dJ1_inflate_0e8fd_4 : decode cJ1_inflate_0e8fd 4 = .ok (.iload 4, 2) := by decide +kernel
theorem dJ1_inflate_0e8fd_6 : decode cJ1_inflate_0e8fd 6 = .ok (.invokestatic 240, 3) := by decide +kernel
theorem dJ1_inflate_0e8fd_9 : decode cJ1_inflate_0e8fd 9 = .ok (.return_, 1) := by decide +kernel
theorem dJ2_newBytesFor_77867_0 : decode cJ2_newBytesFor_77867 0 = .ok (.iload_n 0, 1) := by decide +kernel
theorem dJ2_newBytesFor_77867_1 : decode cJ2_newBytesFor_77867 1 = .ok (.invokestatic 11, 3) := by decide +kernel
theorem dJ2_newBytesFor_77867_4 : decode cJ2_newBytesFor_77867 4 = .ok (.newarray .byte, 2) := by decide +kernel
theorem dJ2_newBytesFor_77867_6 : decode cJ2_newBytesFor_77867 6 = .ok (.areturn, 1) := by decide +kernel
theorem dJ2_newBytesLength_0f7a4_0 : decode cJ2_newBytesLength_0f7a4 0 = .ok (.iload_n 0, 1) := by decide +kernel
theorem dJ2_newBytesLength_0f7a4_1 : decode cJ2_newBytesLength_0f7a4 1 = .ok (.ifCond .ge 11, 3) := by decide +kernel
theorem dJ2_newBytesLength_0f7a4_4 : decode cJ2_newBytesLength_0f7a4 4 = .ok (.new 17, 3) := by decide +kernel
theorem dJ2_newBytesLength_0f7a4_7 : decode cJ2_newBytesLength_0f7a4 7 = .ok (.dup, 1) := by decide +kernel
theorem dJ2_newBytesLength_0f7a4_8 : decode cJ2_newBytesLength_0f7a4 8 = .ok (.invokespecial 19, 3) := by decide +kernel
theorem dJ2_newBytesLength_0f7a4_11 : decode cJ2_newBytesLength_0f7a4 11 = .ok (.athrow, 1) := by decide +kernel
theorem dJ2_newBytesLength_0f7a4_12 : decode cJ2_newBytesLength_0f7a4 12 = .ok (.iload_n 0, 1) := by decide +kernel
theorem dJ2_newBytesLength_0f7a4_13 : decode cJ2_newBytesLength_0f7a4 13 = .ok (.ldc 20, 2) := by decide +kernel
theorem dJ2_newBytesLength_0f7a4_15 : decode cJ2_newBytesLength_0f7a4 15 = .ok (.if_icmp .lt 40, 3) := by decide +kernel
theorem dJ2_newBytesLength_0f7a4_18 : decode cJ2_newBytesLength_0f7a4 18 = .ok (.new 21, 3) := by decide +kernel
theorem dJ2_newBytesLength_0f7a4_21 : decode cJ2_newBytesLength_0f7a4 21 = .ok (.dup, 1) := by decide +kernel
theorem dJ2_newBytesLength_0f7a4_22 : decode cJ2_newBytesLength_0f7a4 22 = .ok (.new 23, 3) := by decide +kernel
theorem dJ2_newBytesLength_0f7a4_25 : decode cJ2_newBytesLength_0f7a4 25 = .ok (.dup, 1) := by decide +kernel
theorem dJ2_newBytesLength_0f7a4_26 : decode cJ2_newBytesLength_0f7a4 26 = .ok (.invokespecial 25, 3) := by decide +kernel
theorem dJ2_newBytesLength_0f7a4_29 : decode cJ2_newBytesLength_0f7a4 29 = .ok (.ldc 26, 2) := by decide +kernel
theorem dJ2_newBytesLength_0f7a4_31 : decode cJ2_newBytesLength_0f7a4 31 = .ok (.invokevirtual 28, 3) := by decide +kernel
theorem dJ2_newBytesLength_0f7a4_34 : decode cJ2_newBytesLength_0f7a4 34 = .ok (.iload_n 0, 1) := by decide +kernel
theorem dJ2_newBytesLength_0f7a4_35 : decode cJ2_newBytesLength_0f7a4 35 = .ok (.invokevirtual 32, 3) := by decide +kernel
theorem dJ2_newBytesLength_0f7a4_38 : decode cJ2_newBytesLength_0f7a4 38 = .ok (.ldc 35, 2) := by decide +kernel
theorem dJ2_newBytesLength_0f7a4_40 : decode cJ2_newBytesLength_0f7a4 40 = .ok (.invokevirtual 28, 3) := by decide +kernel
theorem dJ2_newBytesLength_0f7a4_43 : decode cJ2_newBytesLength_0f7a4 43 = .ok (.ldc 20, 2) := by decide +kernel
theorem dJ2_newBytesLength_0f7a4_45 : decode cJ2_newBytesLength_0f7a4 45 = .ok (.invokevirtual 32, 3) := by decide +kernel
theorem dJ2_newBytesLength_0f7a4_48 : decode cJ2_newBytesLength_0f7a4 48 = .ok (.invokevirtual 37, 3) := by decide +kernel
theorem dJ2_newBytesLength_0f7a4_51 : decode cJ2_newBytesLength_0f7a4 51 = .ok (.invokespecial 41, 3) := by decide +kernel
theorem dJ2_newBytesLength_0f7a4_54 : decode cJ2_newBytesLength_0f7a4 54 = .ok (.athrow, 1) := by decide +kernel
theorem dJ2_newBytesLength_0f7a4_55 : decode cJ2_newBytesLength_0f7a4 55 = .ok (.iload_n 0, 1) := by decide +kernel
theorem dJ2_newBytesLength_0f7a4_56 : decode cJ2_newBytesLength_0f7a4 56 = .ok (.iconst 1, 1) := by decide +kernel
theorem dJ2_newBytesLength_0f7a4_57 : decode cJ2_newBytesLength_0f7a4 57 = .ok (.ishl, 1) := by decide +kernel
theorem dJ2_newBytesLength_0f7a4_58 : decode cJ2_newBytesLength_0f7a4 58 = .ok (.ireturn, 1) := by decide +kernel
theorem dJ2_putChar_b72d1_0 : decode cJ2_putChar_b72d1 0 = .ok (.getstatic 44, 3) := by decide +kernel
theorem dJ2_putChar_b72d1_3 : decode cJ2_putChar_b72d1 3 = .ok (.ifCond .ne 25, 3) := by decide +kernel
theorem dJ2_putChar_b72d1_6 : decode cJ2_putChar_b72d1 6 = .ok (.iload_n 1, 1) := by decide +kernel
theorem dJ2_putChar_b72d1_7 : decode cJ2_putChar_b72d1 7 = .ok (.ifCond .lt 11, 3) := by decide +kernel
theorem dJ2_putChar_b72d1_10 : decode cJ2_putChar_b72d1 10 = .ok (.iload_n 1, 1) := by decide +kernel
theorem dJ2_putChar_b72d1_11 : decode cJ2_putChar_b72d1 11 = .ok (.aload_n 0, 1) := by decide +kernel
theorem dJ2_putChar_b72d1_12 : decode cJ2_putChar_b72d1 12 = .ok (.invokestatic 48, 3) := by decide +kernel
theorem dJ2_putChar_b72d1_15 : decode cJ2_putChar_b72d1 15 = .ok (.if_icmp .lt 13, 3) := by decide +kernel
theorem dJ2_putChar_b72d1_18 : decode cJ2_putChar_b72d1 18 = .ok (.new 52, 3) := by decide +kernel
theorem dJ2_putChar_b72d1_21 : decode cJ2_putChar_b72d1 21 = .ok (.dup, 1) := by decide +kernel
theorem dJ2_putChar_b72d1_22 : decode cJ2_putChar_b72d1 22 = .ok (.ldc 54, 2) := by decide +kernel
theorem dJ2_putChar_b72d1_24 : decode cJ2_putChar_b72d1 24 = .ok (.invokespecial 56, 3) := by decide +kernel
theorem dJ2_putChar_b72d1_27 : decode cJ2_putChar_b72d1 27 = .ok (.athrow, 1) := by decide +kernel
theorem dJ2_putChar_b72d1_28 : decode cJ2_putChar_b72d1 28 = .ok (.iload_n 1, 1) := by decide +kernel
theorem dJ2_putChar_b72d1_29 : decode cJ2_putChar_b72d1 29 = .ok (.iconst 1, 1) := by decide +kernel
theorem dJ2_putChar_b72d1_30 : decode cJ2_putChar_b72d1 30 = .ok (.ishl, 1) := by decide +kernel
theorem dJ2_putChar_b72d1_31 : decode cJ2_putChar_b72d1 31 = .ok (.istore_n 1, 1) := by decide +kernel
theorem dJ2_putChar_b72d1_32 : decode cJ2_putChar_b72d1 32 = .ok (.aload_n 0, 1) := by decide +kernel
theorem dJ2_putChar_b72d1_33 : decode cJ2_putChar_b72d1 33 = .ok (.iload_n 1, 1) := by decide +kernel
theorem dJ2_putChar_b72d1_34 : decode cJ2_putChar_b72d1 34 = .ok (.iinc 1 1, 3) := by decide +kernel
theorem dJ2_putChar_b72d1_37 : decode cJ2_putChar_b72d1 37 = .ok (.iload_n 2, 1) := by decide +kernel
theorem dJ2_putChar_b72d1_38 : decode cJ2_putChar_b72d1 38 = .ok (.getstatic 59, 3) := by decide +kernel
theorem dJ2_putChar_b72d1_41 : decode cJ2_putChar_b72d1 41 = .ok (.ishr, 1) := by decide +kernel
theorem dJ2_putChar_b72d1_42 : decode cJ2_putChar_b72d1 42 = .ok (.i2b, 1) := by decide +kernel
theorem dJ2_putChar_b72d1_43 : decode cJ2_putChar_b72d1 43 = .ok (.bastore, 1) := by decide +kernel
theorem dJ2_putChar_b72d1_44 : decode cJ2_putChar_b72d1 44 = .ok (.aload_n 0, 1) := by decide +kernel
theorem dJ2_putChar_b72d1_45 : decode cJ2_putChar_b72d1 45 = .ok (.iload_n 1, 1) := by decide +kernel
theorem dJ2_putChar_b72d1_46 : decode cJ2_putChar_b72d1 46 = .ok (.iload_n 2, 1) := by decide +kernel
theorem dJ2_putChar_b72d1_47 : decode cJ2_putChar_b72d1 47 = .ok (.getstatic 63, 3) := by decide +kernel
theorem dJ2_putChar_b72d1_50 : decode cJ2_putChar_b72d1 50 = .ok (.ishr, 1) := by decide +kernel
theorem dJ2_putChar_b72d1_51 : decode cJ2_putChar_b72d1 51 = .ok (.i2b, 1) := by decide +kernel
theorem dJ2_putChar_b72d1_52 : decode cJ2_putChar_b72d1 52 = .ok (.bastore, 1) := by decide +kernel
theorem dJ2_putChar_b72d1_53 : decode cJ2_putChar_b72d1 53 = .ok (.return_, 1) := by decide +kernel
theorem dJ2_getChar_3b067_0 : decode cJ2_getChar_3b067 0 = .ok (.getstatic 44, 3) := by decide +kernel
theorem dJ2_getChar_3b067_3 : decode cJ2_getChar_3b067 3 = .ok (.ifCond .ne 25, 3) := by decide +kernel
theorem dJ2_getChar_3b067_6 : decode cJ2_getChar_3b067 6 = .ok (.iload_n 1, 1) := by decide +kernel
theorem dJ2_getChar_3b067_7 : decode cJ2_getChar_3b067 7 = .ok (.ifCond .lt 11, 3) := by decide +kernel
theorem dJ2_getChar_3b067_10 : decode cJ2_getChar_3b067 10 = .ok (.iload_n 1, 1) := by decide +kernel
theorem dJ2_getChar_3b067_11 : decode cJ2_getChar_3b067 11 = .ok (.aload_n 0, 1) := by decide +kernel
theorem dJ2_getChar_3b067_12 : decode cJ2_getChar_3b067 12 = .ok (.invokestatic 48, 3) := by decide +kernel
theorem dJ2_getChar_3b067_15 : decode cJ2_getChar_3b067 15 = .ok (.if_icmp .lt 13, 3) := by decide +kernel
theorem dJ2_getChar_3b067_18 : decode cJ2_getChar_3b067 18 = .ok (.new 52, 3) := by decide +kernel
theorem dJ2_getChar_3b067_21 : decode cJ2_getChar_3b067 21 = .ok (.dup, 1) := by decide +kernel
theorem dJ2_getChar_3b067_22 : decode cJ2_getChar_3b067 22 = .ok (.ldc 54, 2) := by decide +kernel
theorem dJ2_getChar_3b067_24 : decode cJ2_getChar_3b067 24 = .ok (.invokespecial 56, 3) := by decide +kernel
theorem dJ2_getChar_3b067_27 : decode cJ2_getChar_3b067 27 = .ok (.athrow, 1) := by decide +kernel
theorem dJ2_getChar_3b067_28 : decode cJ2_getChar_3b067 28 = .ok (.iload_n 1, 1) := by decide +kernel
theorem dJ2_getChar_3b067_29 : decode cJ2_getChar_3b067 29 = .ok (.iconst 1, 1) := by decide +kernel
theorem dJ2_getChar_3b067_30 : decode cJ2_getChar_3b067 30 = .ok (.ishl, 1) := by decide +kernel
theorem dJ2_getChar_3b067_31 : decode cJ2_getChar_3b067 31 = .ok (.istore_n 1, 1) := by decide +kernel
theorem dJ2_getChar_3b067_32 : decode cJ2_getChar_3b067 32 = .ok (.aload_n 0, 1) := by decide +kernel
theorem dJ2_getChar_3b067_33 : decode cJ2_getChar_3b067 33 = .ok (.iload_n 1, 1) := by decide +kernel
theorem dJ2_getChar_3b067_34 : decode cJ2_getChar_3b067 34 = .ok (.iinc 1 1, 3) := by decide +kernel
theorem dJ2_getChar_3b067_37 : decode cJ2_getChar_3b067 37 = .ok (.baload, 1) := by decide +kernel
theorem dJ2_getChar_3b067_38 : decode cJ2_getChar_3b067 38 = .ok (.sipush 255, 3) := by decide +kernel
theorem dJ2_getChar_3b067_41 : decode cJ2_getChar_3b067 41 = .ok (.iand, 1) := by decide +kernel
theorem dJ2_getChar_3b067_42 : decode cJ2_getChar_3b067 42 = .ok (.getstatic 59, 3) := by decide +kernel
theorem dJ2_getChar_3b067_45 : decode cJ2_getChar_3b067 45 = .ok (.ishl, 1) := by decide +kernel
theorem dJ2_getChar_3b067_46 : decode cJ2_getChar_3b067 46 = .ok (.aload_n 0, 1) := by decide +kernel
theorem dJ2_getChar_3b067_47 : decode cJ2_getChar_3b067 47 = .ok (.iload_n 1, 1) := by decide +kernel
theorem dJ2_getChar_3b067_48 : decode cJ2_getChar_3b067 48 = .ok (.baload, 1) := by decide +kernel
theorem dJ2_getChar_3b067_49 : decode cJ2_getChar_3b067 49 = .ok (.sipush 255, 3) := by decide +kernel
theorem dJ2_getChar_3b067_52 : decode cJ2_getChar_3b067 52 = .ok (.iand, 1) := by decide +kernel
theorem dJ2_getChar_3b067_53 : decode cJ2_getChar_3b067 53 = .ok (.getstatic 63, 3) := by decide +kernel
theorem dJ2_getChar_3b067_56 : decode cJ2_getChar_3b067 56 = .ok (.ishl, 1) := by decide +kernel
theorem dJ2_getChar_3b067_57 : decode cJ2_getChar_3b067 57 = .ok (.ior, 1) := by decide +kernel
theorem dJ2_getChar_3b067_58 : decode cJ2_getChar_3b067 58 = .ok (.i2c, 1) := by decide +kernel
theorem dJ2_getChar_3b067_59 : decode cJ2_getChar_3b067 59 = .ok (.ireturn, 1) := by decide +kernel
theorem dJ2_length_9d52b_0 : decode cJ2_length_9d52b 0 = .ok (.aload_n 0, 1) := by decide +kernel
theorem dJ2_length_9d52b_1 : decode cJ2_length_9d52b 1 = .ok (.arraylength, 1) := by decide +kernel
theorem dJ2_length_9d52b_2 : decode cJ2_length_9d52b 2 = .ok (.iconst 1, 1) := by decide +kernel
theorem dJ2_length_9d52b_3 : decode cJ2_length_9d52b 3 = .ok (.ishr, 1) := by decide +kernel
theorem dJ2_length_9d52b_4 : decode cJ2_length_9d52b 4 = .ok (.ireturn, 1) := by decide +kernel
theorem dJ2_coderFromArrayLen_85cad_0 : decode cJ2_coderFromArrayLen_85cad 0 = .ok (.iload_n 1, 1) := by decide +kernel
theorem dJ2_coderFromArrayLen_85cad_1 : decode cJ2_coderFromArrayLen_85cad 1 = .ok (.aload_n 0, 1) := by decide +kernel
theorem dJ2_coderFromArrayLen_85cad_2 : decode cJ2_coderFromArrayLen_85cad 2 = .ok (.arraylength, 1) := by decide +kernel
theorem dJ2_coderFromArrayLen_85cad_3 : decode cJ2_coderFromArrayLen_85cad 3 = .ok (.isub, 1) := by decide +kernel
theorem dJ2_coderFromArrayLen_85cad_4 : decode cJ2_coderFromArrayLen_85cad 4 = .ok (.bipush 31, 2) := by decide +kernel
theorem dJ2_coderFromArrayLen_85cad_6 : decode cJ2_coderFromArrayLen_85cad 6 = .ok (.iushr, 1) := by decide +kernel
theorem dJ2_coderFromArrayLen_85cad_7 : decode cJ2_coderFromArrayLen_85cad 7 = .ok (.i2b, 1) := by decide +kernel
theorem dJ2_coderFromArrayLen_85cad_8 : decode cJ2_coderFromArrayLen_85cad 8 = .ok (.ireturn, 1) := by decide +kernel
theorem dJ2_compress_39247_0 : decode cJ2_compress_39247 0 = .ok (.iload_n 2, 1) := by decide +kernel
theorem dJ2_compress_39247_1 : decode cJ2_compress_39247 1 = .ok (.newarray .byte, 2) := by decide +kernel
theorem dJ2_compress_39247_3 : decode cJ2_compress_39247 3 = .ok (.astore_n 3, 1) := by decide +kernel
theorem dJ2_compress_39247_4 : decode cJ2_compress_39247 4 = .ok (.aload_n 0, 1) := by decide +kernel
theorem dJ2_compress_39247_5 : decode cJ2_compress_39247 5 = .ok (.iload_n 1, 1) := by decide +kernel
theorem dJ2_compress_39247_6 : decode cJ2_compress_39247 6 = .ok (.aload_n 3, 1) := by decide +kernel
theorem dJ2_compress_39247_7 : decode cJ2_compress_39247 7 = .ok (.iconst 0, 1) := by decide +kernel
theorem dJ2_compress_39247_8 : decode cJ2_compress_39247 8 = .ok (.iload_n 2, 1) := by decide +kernel
theorem dJ2_compress_39247_9 : decode cJ2_compress_39247 9 = .ok (.invokestatic 123, 3) := by decide +kernel
theorem dJ2_compress_39247_12 : decode cJ2_compress_39247 12 = .ok (.istore 4, 2) := by decide +kernel
theorem dJ2_compress_39247_14 : decode cJ2_compress_39247 14 = .ok (.iload 4, 2) := by decide +kernel
theorem dJ2_compress_39247_16 : decode cJ2_compress_39247 16 = .ok (.iload_n 2, 1) := by decide +kernel
theorem dJ2_compress_39247_17 : decode cJ2_compress_39247 17 = .ok (.if_icmp .eq 47, 3) := by decide +kernel
theorem dJ2_compress_39247_20 : decode cJ2_compress_39247 20 = .ok (.aload_n 0, 1) := by decide +kernel
theorem dJ2_compress_39247_21 : decode cJ2_compress_39247 21 = .ok (.iload_n 1, 1) := by decide +kernel
theorem dJ2_compress_39247_22 : decode cJ2_compress_39247 22 = .ok (.iconst 1, 1) := by decide +kernel
theorem dJ2_compress_39247_23 : decode cJ2_compress_39247 23 = .ok (.ishl, 1) := by decide +kernel
theorem dJ2_compress_39247_24 : decode cJ2_compress_39247 24 = .ok (.iload_n 1, 1) := by decide +kernel
theorem dJ2_compress_39247_25 : decode cJ2_compress_39247 25 = .ok (.iload_n 2, 1) := by decide +kernel
theorem dJ2_compress_39247_26 : decode cJ2_compress_39247 26 = .ok (.iadd, 1) := by decide +kernel
theorem dJ2_compress_39247_27 : decode cJ2_compress_39247 27 = .ok (.invokestatic 11, 3) := by decide +kernel
theorem dJ2_compress_39247_30 : decode cJ2_compress_39247 30 = .ok (.invokestatic 126, 3) := by decide +kernel
theorem dJ2_compress_39247_33 : decode cJ2_compress_39247 33 = .ok (.astore 5, 2) := by decide +kernel
theorem dJ2_compress_39247_35 : decode cJ2_compress_39247 35 = .ok (.aload 5, 2) := by decide +kernel
theorem dJ2_compress_39247_37 : decode cJ2_compress_39247 37 = .ok (.iload 4, 2) := by decide +kernel
theorem dJ2_compress_39247_39 : decode cJ2_compress_39247 39 = .ok (.invokestatic 71, 3) := by decide +kernel
theorem dJ2_compress_39247_42 : decode cJ2_compress_39247 42 = .ok (.sipush 255, 3) := by decide +kernel
theorem dJ2_compress_39247_45 : decode cJ2_compress_39247 45 = .ok (.if_icmp .gt 16, 3) := by decide +kernel
theorem dJ2_compress_39247_48 : decode cJ2_compress_39247 48 = .ok (.aload 5, 2) := by decide +kernel
theorem dJ2_compress_39247_50 : decode cJ2_compress_39247 50 = .ok (.iconst 0, 1) := by decide +kernel
theorem dJ2_compress_39247_51 : decode cJ2_compress_39247 51 = .ok (.aload_n 3, 1) := by decide +kernel
theorem dJ2_compress_39247_52 : decode cJ2_compress_39247 52 = .ok (.iconst 0, 1) := by decide +kernel
theorem dJ2_compress_39247_53 : decode cJ2_compress_39247 53 = .ok (.iload_n 2, 1) := by decide +kernel
theorem dJ2_compress_39247_54 : decode cJ2_compress_39247 54 = .ok (.invokestatic 123, 3) := by decide +kernel
theorem dJ2_compress_39247_57 : decode cJ2_compress_39247 57 = .ok (.iload_n 2, 1) := by decide +kernel
theorem dJ2_compress_39247_58 : decode cJ2_compress_39247 58 = .ok (.if_icmp .eq 6, 3) := by decide +kernel
theorem dJ2_compress_39247_61 : decode cJ2_compress_39247 61 = .ok (.aload 5, 2) := by decide +kernel
theorem dJ2_compress_39247_63 : decode cJ2_compress_39247 63 = .ok (.areturn, 1) := by decide +kernel
theorem dJ2_compress_39247_64 : decode cJ2_compress_39247 64 = .ok (.aload_n 3, 1) := by decide +kernel
theorem dJ2_compress_39247_65 : decode cJ2_compress_39247 65 = .ok (.areturn, 1) := by decide +kernel
theorem dJ2_compress_5af95_0 : decode cJ2_compress_5af95 0 = .ok (.iload_n 1, 1) := by decide +kernel
theorem dJ2_compress_5af95_1 : decode cJ2_compress_5af95 1 = .ok (.iload 4, 2) := by decide +kernel
theorem dJ2_compress_5af95_3 : decode cJ2_compress_5af95 3 = .ok (.aload_n 0, 1) := by decide +kernel
theorem dJ2_compress_5af95_4 : decode cJ2_compress_5af95 4 = .ok (.invokestatic 173, 3) := by decide +kernel
theorem dJ2_compress_5af95_7 : decode cJ2_compress_5af95 7 = .ok (.iconst 0, 1) := by decide +kernel
theorem dJ2_compress_5af95_8 : decode cJ2_compress_5af95 8 = .ok (.istore 5, 2) := by decide +kernel
theorem dJ2_compress_5af95_10 : decode cJ2_compress_5af95 10 = .ok (.iload 5, 2) := by decide +kernel
theorem dJ2_compress_5af95_12 : decode cJ2_compress_5af95 12 = .ok (.iload 4, 2) := by decide +kernel
theorem dJ2_compress_5af95_14 : decode cJ2_compress_5af95 14 = .ok (.if_icmp .ge 39, 3) := by decide +kernel
theorem dJ2_compress_5af95_17 : decode cJ2_compress_5af95 17 = .ok (.aload_n 0, 1) := by decide +kernel
theorem dJ2_compress_5af95_18 : decode cJ2_compress_5af95 18 = .ok (.iload_n 1, 1) := by decide +kernel
theorem dJ2_compress_5af95_19 : decode cJ2_compress_5af95 19 = .ok (.invokestatic 71, 3) := by decide +kernel
theorem dJ2_compress_5af95_22 : decode cJ2_compress_5af95 22 = .ok (.istore 6, 2) := by decide +kernel
theorem dJ2_compress_5af95_24 : decode cJ2_compress_5af95 24 = .ok (.iload 6, 2) := by decide +kernel
theorem dJ2_compress_5af95_26 : decode cJ2_compress_5af95 26 = .ok (.sipush 255, 3) := by decide +kernel
theorem dJ2_compress_5af95_29 : decode cJ2_compress_5af95 29 = .ok (.if_icmp .le 6, 3) := by decide +kernel
theorem dJ2_compress_5af95_32 : decode cJ2_compress_5af95 32 = .ok (.iload 5, 2) := by decide +kernel
theorem dJ2_compress_5af95_34 : decode cJ2_compress_5af95 34 = .ok (.ireturn, 1) := by decide +kernel
theorem dJ2_compress_5af95_35 : decode cJ2_compress_5af95 35 = .ok (.aload_n 2, 1) := by decide +kernel
theorem dJ2_compress_5af95_36 : decode cJ2_compress_5af95 36 = .ok (.iload_n 3, 1) := by decide +kernel
theorem dJ2_compress_5af95_37 : decode cJ2_compress_5af95 37 = .ok (.iload 6, 2) := by decide +kernel
theorem dJ2_compress_5af95_39 : decode cJ2_compress_5af95 39 = .ok (.i2b, 1) := by decide +kernel
theorem dJ2_compress_5af95_40 : decode cJ2_compress_5af95 40 = .ok (.bastore, 1) := by decide +kernel
theorem dJ2_compress_5af95_41 : decode cJ2_compress_5af95 41 = .ok (.iinc 1 1, 3) := by decide +kernel
theorem dJ2_compress_5af95_44 : decode cJ2_compress_5af95 44 = .ok (.iinc 3 1, 3) := by decide +kernel
theorem dJ2_compress_5af95_47 : decode cJ2_compress_5af95 47 = .ok (.iinc 5 1, 3) := by decide +kernel
theorem dJ2_compress_5af95_50 : decode cJ2_compress_5af95 50 = .ok (.goto (-40), 3) := by decide +kernel
theorem dJ2_compress_5af95_53 : decode cJ2_compress_5af95 53 = .ok (.iload 4, 2) := by decide +kernel
theorem dJ2_compress_5af95_55 : decode cJ2_compress_5af95 55 = .ok (.ireturn, 1) := by decide +kernel
theorem dJ2_putCharSB_b72d1_0 : decode cJ2_putCharSB_b72d1 0 = .ok (.iload_n 1, 1) := by decide +kernel
theorem dJ2_putCharSB_b72d1_1 : decode cJ2_putCharSB_b72d1 1 = .ok (.aload_n 0, 1) := by decide +kernel
theorem dJ2_putCharSB_b72d1_2 : decode cJ2_putCharSB_b72d1 2 = .ok (.invokestatic 67, 3) := by decide +kernel
theorem dJ2_putCharSB_b72d1_5 : decode cJ2_putCharSB_b72d1 5 = .ok (.aload_n 0, 1) := by decide +kernel
theorem dJ2_putCharSB_b72d1_6 : decode cJ2_putCharSB_b72d1 6 = .ok (.iload_n 1, 1) := by decide +kernel
theorem dJ2_putCharSB_b72d1_7 : decode cJ2_putCharSB_b72d1 7 = .ok (.iload_n 2, 1) := by decide +kernel
theorem dJ2_putCharSB_b72d1_8 : decode cJ2_putCharSB_b72d1 8 = .ok (.invokestatic 111, 3) := by decide +kernel
theorem dJ2_putCharSB_b72d1_11 : decode cJ2_putCharSB_b72d1 11 = .ok (.return_, 1) := by decide +kernel
theorem dJ2_getChars_46870_0 : decode cJ2_getChars_46870 0 = .ok (.iload_n 1, 1) := by decide +kernel
theorem dJ2_getChars_46870_1 : decode cJ2_getChars_46870 1 = .ok (.iload_n 2, 1) := by decide +kernel
theorem dJ2_getChars_46870_2 : decode cJ2_getChars_46870 2 = .ok (.aload_n 3, 1) := by decide +kernel
theorem dJ2_getChars_46870_3 : decode cJ2_getChars_46870 3 = .ok (.invokestatic 96, 3) := by decide +kernel
theorem dJ2_getChars_46870_6 : decode cJ2_getChars_46870 6 = .ok (.iload_n 0, 1) := by decide +kernel
theorem dJ2_getChars_46870_7 : decode cJ2_getChars_46870 7 = .ok (.iload_n 2, 1) := by decide +kernel
theorem dJ2_getChars_46870_8 : decode cJ2_getChars_46870 8 = .ok (.aload_n 3, 1) := by decide +kernel
theorem dJ2_getChars_46870_9 : decode cJ2_getChars_46870 9 = .ok (.invokestatic 393, 3) := by decide +kernel
theorem dJ2_getChars_46870_12 : decode cJ2_getChars_46870 12 = .ok (.istore 4, 2) := by decide +kernel
theorem dJ2_getChars_46870_14 : decode cJ2_getChars_46870 14 = .ok (.getstatic 44, 3) := by decide +kernel
theorem dJ2_getChars_46870_17 : decode cJ2_getChars_46870 17 = .ok (.ifCond .ne 17, 3) := by decide +kernel
theorem dJ2_getChars_46870_20 : decode cJ2_getChars_46870 20 = .ok (.iload_n 1, 1) := by decide +kernel
theorem dJ2_getChars_46870_21 : decode cJ2_getChars_46870 21 = .ok (.iload 4, 2) := by decide +kernel
theorem dJ2_getChars_46870_23 : decode cJ2_getChars_46870 23 = .ok (.if_icmp .eq 11, 3) := by decide +kernel
theorem dJ2_getChars_46870_26 : decode cJ2_getChars_46870 26 = .ok (.new 52, 3) := by decide +kernel
theorem dJ2_getChars_46870_29 : decode cJ2_getChars_46870 29 = .ok (.dup, 1) := by decide +kernel
theorem dJ2_getChars_46870_30 : decode cJ2_getChars_46870 30 = .ok (.invokespecial 66, 3) := by decide +kernel
theorem dJ2_getChars_46870_33 : decode cJ2_getChars_46870 33 = .ok (.athrow, 1) := by decide +kernel
theorem dJ2_getChars_46870_34 : decode cJ2_getChars_46870 34 = .ok (.iload 4, 2) := by decide +kernel
theorem dJ2_getChars_46870_36 : decode cJ2_getChars_46870 36 = .ok (.ireturn, 1) := by decide +kernel
theorem dJ2_putCharsAt_cd4e5_0 : decode cJ2_putCharsAt_cd4e5 0 = .ok (.iload_n 1, 1) := by decide +kernel
theorem dJ2_putCharsAt_cd4e5_1 : decode cJ2_putCharsAt_cd4e5 1 = .ok (.iconst 4, 1) := by decide +kernel
theorem dJ2_putCharsAt_cd4e5_2 : decode cJ2_putCharsAt_cd4e5 2 = .ok (.iadd, 1) := by decide +kernel
theorem dJ2_putCharsAt_cd4e5_3 : decode cJ2_putCharsAt_cd4e5 3 = .ok (.istore 6, 2) := by decide +kernel
theorem dJ2_putCharsAt_cd4e5_5 : decode cJ2_putCharsAt_cd4e5 5 = .ok (.iload_n 1, 1) := by decide +kernel
theorem dJ2_putCharsAt_cd4e5_6 : decode cJ2_putCharsAt_cd4e5 6 = .ok (.iload 6, 2) := by decide +kernel
theorem dJ2_putCharsAt_cd4e5_8 : decode cJ2_putCharsAt_cd4e5 8 = .ok (.aload_n 0, 1) := by decide +kernel
theorem dJ2_putCharsAt_cd4e5_9 : decode cJ2_putCharsAt_cd4e5 9 = .ok (.invokestatic 96, 3) := by decide +kernel
theorem dJ2_putCharsAt_cd4e5_12 : decode cJ2_putCharsAt_cd4e5 12 = .ok (.aload_n 0, 1) := by decide +kernel
theorem dJ2_putCharsAt_cd4e5_13 : decode cJ2_putCharsAt_cd4e5 13 = .ok (.iload_n 1, 1) := by decide +kernel
theorem dJ2_putCharsAt_cd4e5_14 : decode cJ2_putCharsAt_cd4e5 14 = .ok (.iinc 1 1, 3) := by decide +kernel
theorem dJ2_putCharsAt_cd4e5_17 : decode cJ2_putCharsAt_cd4e5 17 = .ok (.iload_n 2, 1) := by decide +kernel
theorem dJ2_putCharsAt_cd4e5_18 : decode cJ2_putCharsAt_cd4e5 18 = .ok (.invokestatic 111, 3) := by decide +kernel
theorem dJ2_putCharsAt_cd4e5_21 : decode cJ2_putCharsAt_cd4e5 21 = .ok (.aload_n 0, 1) := by decide +kernel
theorem dJ2_putCharsAt_cd4e5_22 : decode cJ2_putCharsAt_cd4e5 22 = .ok (.iload_n 1, 1) := by decide +kernel
theorem dJ2_putCharsAt_cd4e5_23 : decode cJ2_putCharsAt_cd4e5 23 = .ok (.iinc 1 1, 3) := by decide +kernel
theorem dJ2_putCharsAt_cd4e5_26 : decode cJ2_putCharsAt_cd4e5 26 = .ok (.iload_n 3, 1) := by decide +kernel
theorem dJ2_putCharsAt_cd4e5_27 : decode cJ2_putCharsAt_cd4e5 27 = .ok (.invokestatic 111, 3) := by decide +kernel
theorem dJ2_putCharsAt_cd4e5_30 : decode cJ2_putCharsAt_cd4e5 30 = .ok (.aload_n 0, 1) := by decide +kernel
theorem dJ2_putCharsAt_cd4e5_31 : decode cJ2_putCharsAt_cd4e5 31 = .ok (.iload_n 1, 1) := by decide +kernel
theorem dJ2_putCharsAt_cd4e5_32 : decode cJ2_putCharsAt_cd4e5 32 = .ok (.iinc 1 1, 3) := by decide +kernel
theorem dJ2_putCharsAt_cd4e5_35 : decode cJ2_putCharsAt_cd4e5 35 = .ok (.iload 4, 2) := by decide +kernel
theorem dJ2_putCharsAt_cd4e5_37 : decode cJ2_putCharsAt_cd4e5 37 = .ok (.invokestatic 111, 3) := by decide +kernel
theorem dJ2_putCharsAt_cd4e5_40 : decode cJ2_putCharsAt_cd4e5 40 = .ok (.aload_n 0, 1) := by decide +kernel
theorem dJ2_putCharsAt_cd4e5_41 : decode cJ2_putCharsAt_cd4e5 41 = .ok (.iload_n 1, 1) := by decide +kernel
theorem dJ2_putCharsAt_cd4e5_42 : decode cJ2_putCharsAt_cd4e5 42 = .ok (.iinc 1 1, 3) := by decide +kernel
theorem dJ2_putCharsAt_cd4e5_45 : decode cJ2_putCharsAt_cd4e5 45 = .ok (.iload 5, 2) := by decide +kernel
theorem dJ2_putCharsAt_cd4e5_47 : decode cJ2_putCharsAt_cd4e5 47 = .ok (.invokestatic 111, 3) := by decide +kernel
theorem dJ2_putCharsAt_cd4e5_50 : decode cJ2_putCharsAt_cd4e5 50 = .ok (.getstatic 44, 3) := by decide +kernel
theorem dJ2_putCharsAt_cd4e5_53 : decode cJ2_putCharsAt_cd4e5 53 = .ok (.ifCond .ne 17, 3) := by decide +kernel
theorem dJ2_putCharsAt_cd4e5_56 : decode cJ2_putCharsAt_cd4e5 56 = .ok (.iload_n 1, 1) := by decide +kernel
theorem dJ2_putCharsAt_cd4e5_57 : decode cJ2_putCharsAt_cd4e5 57 = .ok (.iload 6, 2) := by decide +kernel
theorem dJ2_putCharsAt_cd4e5_59 : decode cJ2_putCharsAt_cd4e5 59 = .ok (.if_icmp .eq 11, 3) := by decide +kernel
theorem dJ2_putCharsAt_cd4e5_62 : decode cJ2_putCharsAt_cd4e5 62 = .ok (.new 52, 3) := by decide +kernel
theorem dJ2_putCharsAt_cd4e5_65 : decode cJ2_putCharsAt_cd4e5 65 = .ok (.dup, 1) := by decide +kernel
theorem dJ2_putCharsAt_cd4e5_66 : decode cJ2_putCharsAt_cd4e5 66 = .ok (.invokespecial 66, 3) := by decide +kernel
theorem dJ2_putCharsAt_cd4e5_69 : decode cJ2_putCharsAt_cd4e5 69 = .ok (.athrow, 1) := by decide +kernel
theorem dJ2_putCharsAt_cd4e5_70 : decode cJ2_putCharsAt_cd4e5 70 = .ok (.iload 6, 2) := by decide +kernel
theorem dJ2_putCharsAt_cd4e5_72 : decode cJ2_putCharsAt_cd4e5 72 = .ok (.ireturn, 1) := by decide +kernel
theorem dJ2_inflate_0e8fd_0 : decode cJ2_inflate_0e8fd 0 = .ok (.iload_n 3, 1) := by decide +kernel
theorem dJ2_inflate_0e8fd_1 : decode cJ2_inflate_0e8fd 1 = .ok (.iload 4, 2) := by decide +kernel
theorem dJ2_inflate_0e8fd_3 : decode cJ2_inflate_0e8fd 3 = .ok (.aload_n 2, 1) := by decide +kernel
theorem dJ2_inflate_0e8fd_4 : decode cJ2_inflate_0e8fd 4 = .ok (.invokestatic 173, 3) := by decide +kernel
theorem dJ2_inflate_0e8fd_7 : decode cJ2_inflate_0e8fd 7 = .ok (.iconst 0, 1) := by decide +kernel
theorem dJ2_inflate_0e8fd_8 : decode cJ2_inflate_0e8fd 8 = .ok (.istore 5, 2) := by decide +kernel
theorem dJ2_inflate_0e8fd_10 : decode cJ2_inflate_0e8fd 10 = .ok (.iload 5, 2) := by decide +kernel
theorem dJ2_inflate_0e8fd_12 : decode cJ2_inflate_0e8fd 12 = .ok (.iload 4, 2) := by decide +kernel
theorem dJ2_inflate_0e8fd_14 : decode cJ2_inflate_0e8fd 14 = .ok (.if_icmp .ge 27, 3) := by decide +kernel
theorem dJ2_inflate_0e8fd_17 : decode cJ2_inflate_0e8fd 17 = .ok (.aload_n 2, 1) := by decide +kernel
theorem dJ2_inflate_0e8fd_18 : decode cJ2_inflate_0e8fd 18 = .ok (.iload_n 3, 1) := by decide +kernel
theorem dJ2_inflate_0e8fd_19 : decode cJ2_inflate_0e8fd 19 = .ok (.iinc 3 1, 3) := by decide +kernel
theorem dJ2_inflate_0e8fd_22 : decode cJ2_inflate_0e8fd 22 = .ok (.aload_n 0, 1) := by decide +kernel
theorem dJ2_inflate_0e8fd_23 : decode cJ2_inflate_0e8fd 23 = .ok (.iload_n 1, 1) := by decide +kernel
theorem dJ2_inflate_0e8fd_24 : decode cJ2_inflate_0e8fd 24 = .ok (.iinc 1 1, 3) := by decide +kernel
theorem dJ2_inflate_0e8fd_27 : decode cJ2_inflate_0e8fd 27 = .ok (.baload, 1) := by decide +kernel
theorem dJ2_inflate_0e8fd_28 : decode cJ2_inflate_0e8fd 28 = .ok (.sipush 255, 3) := by decide +kernel
theorem dJ2_inflate_0e8fd_31 : decode cJ2_inflate_0e8fd 31 = .ok (.iand, 1) := by decide +kernel
theorem dJ2_inflate_0e8fd_32 : decode cJ2_inflate_0e8fd 32 = .ok (.invokestatic 111, 3) := by decide +kernel
theorem dJ2_inflate_0e8fd_35 : decode cJ2_inflate_0e8fd 35 = .ok (.iinc 5 1, 3) := by decide +kernel
theorem dJ2_inflate_0e8fd_38 : decode cJ2_inflate_0e8fd 38 = .ok (.goto (-28), 3) := by decide +kernel
theorem dJ2_inflate_0e8fd_41 : decode cJ2_inflate_0e8fd 41 = .ok (.return_, 1) := by decide +kernel
theorem dJ2_getChars_ba4f3_0 : decode cJ2_getChars_ba4f3 0 = .ok (.iload_n 1, 1) := by decide +kernel
theorem dJ2_getChars_ba4f3_1 : decode cJ2_getChars_ba4f3 1 = .ok (.istore 5, 2) := by decide +kernel
theorem dJ2_getChars_ba4f3_3 : decode cJ2_getChars_ba4f3 3 = .ok (.iload_n 0, 1) := by decide +kernel
theorem dJ2_getChars_ba4f3_4 : decode cJ2_getChars_ba4f3 4 = .ok (.ifCond .ge 7, 3) := by decide +kernel
theorem dJ2_getChars_ba4f3_7 : decode cJ2_getChars_ba4f3 7 = .ok (.iconst 1, 1) := by decide +kernel
theorem dJ2_getChars_ba4f3_8 : decode cJ2_getChars_ba4f3 8 = .ok (.goto 4, 3) := by decide +kernel
theorem dJ2_getChars_ba4f3_11 : decode cJ2_getChars_ba4f3 11 = .ok (.iconst 0, 1) := by decide +kernel
theorem dJ2_getChars_ba4f3_12 : decode cJ2_getChars_ba4f3 12 = .ok (.istore 6, 2) := by decide +kernel
theorem dJ2_getChars_ba4f3_14 : decode cJ2_getChars_ba4f3 14 = .ok (.iload 6, 2) := by decide +kernel
theorem dJ2_getChars_ba4f3_16 : decode cJ2_getChars_ba4f3 16 = .ok (.ifCond .ne 6, 3) := by decide +kernel
theorem dJ2_getChars_ba4f3_19 : decode cJ2_getChars_ba4f3 19 = .ok (.iload_n 0, 1) := by decide +kernel
theorem dJ2_getChars_ba4f3_20 : decode cJ2_getChars_ba4f3 20 = .ok (.ineg, 1) := by decide +kernel
theorem dJ2_getChars_ba4f3_21 : decode cJ2_getChars_ba4f3 21 = .ok (.istore_n 0, 1) := by decide +kernel
theorem dJ2_getChars_ba4f3_22 : decode cJ2_getChars_ba4f3 22 = .ok (.iload_n 0, 1) := by decide +kernel
theorem dJ2_getChars_ba4f3_23 : decode cJ2_getChars_ba4f3 23 = .ok (.bipush (-100), 2) := by decide +kernel
theorem dJ2_getChars_ba4f3_25 : decode cJ2_getChars_ba4f3 25 = .ok (.if_icmp .gt 51, 3) := by decide +kernel
theorem dJ2_getChars_ba4f3_28 : decode cJ2_getChars_ba4f3 28 = .ok (.iload_n 0, 1) := by decide +kernel
theorem dJ2_getChars_ba4f3_29 : decode cJ2_getChars_ba4f3 29 = .ok (.bipush 100, 2) := by decide +kernel
theorem dJ2_getChars_ba4f3_31 : decode cJ2_getChars_ba4f3 31 = .ok (.idiv, 1) := by decide +kernel
theorem dJ2_getChars_ba4f3_32 : decode cJ2_getChars_ba4f3 32 = .ok (.istore_n 3, 1) := by decide +kernel
theorem dJ2_getChars_ba4f3_33 : decode cJ2_getChars_ba4f3 33 = .ok (.iload_n 3, 1) := by decide +kernel
theorem dJ2_getChars_ba4f3_34 : decode cJ2_getChars_ba4f3 34 = .ok (.bipush 100, 2) := by decide +kernel
theorem dJ2_getChars_ba4f3_36 : decode cJ2_getChars_ba4f3 36 = .ok (.imul, 1) := by decide +kernel
theorem dJ2_getChars_ba4f3_37 : decode cJ2_getChars_ba4f3 37 = .ok (.iload_n 0, 1) := by decide +kernel
theorem dJ2_getChars_ba4f3_38 : decode cJ2_getChars_ba4f3 38 = .ok (.isub, 1) := by decide +kernel
theorem dJ2_getChars_ba4f3_39 : decode cJ2_getChars_ba4f3 39 = .ok (.istore 4, 2) := by decide +kernel
theorem dJ2_getChars_ba4f3_41 : decode cJ2_getChars_ba4f3 41 = .ok (.iload_n 3, 1) := by decide +kernel
theorem dJ2_getChars_ba4f3_42 : decode cJ2_getChars_ba4f3 42 = .ok (.istore_n 0, 1) := by decide +kernel
theorem dJ2_getChars_ba4f3_43 : decode cJ2_getChars_ba4f3 43 = .ok (.aload_n 2, 1) := by decide +kernel
theorem dJ2_getChars_ba4f3_44 : decode cJ2_getChars_ba4f3 44 = .ok (.iinc 5 (-1), 3) := by decide +kernel
theorem dJ2_getChars_ba4f3_47 : decode cJ2_getChars_ba4f3 47 = .ok (.iload 5, 2) := by decide +kernel
theorem dJ2_getChars_ba4f3_49 : decode cJ2_getChars_ba4f3 49 = .ok (.getstatic 403, 3) := by decide +kernel
theorem dJ2_getChars_ba4f3_52 : decode cJ2_getChars_ba4f3 52 = .ok (.iload 4, 2) := by decide +kernel
theorem dJ2_getChars_ba4f3_54 : decode cJ2_getChars_ba4f3 54 = .ok (.baload, 1) := by decide +kernel
theorem dJ2_getChars_ba4f3_55 : decode cJ2_getChars_ba4f3 55 = .ok (.invokestatic 111, 3) := by decide +kernel
theorem dJ2_getChars_ba4f3_58 : decode cJ2_getChars_ba4f3 58 = .ok (.aload_n 2, 1) := by decide +kernel
theorem dJ2_getChars_ba4f3_59 : decode cJ2_getChars_ba4f3 59 = .ok (.iinc 5 (-1), 3) := by decide +kernel
theorem dJ2_getChars_ba4f3_62 : decode cJ2_getChars_ba4f3 62 = .ok (.iload 5, 2) := by decide +kernel
theorem dJ2_getChars_ba4f3_64 : decode cJ2_getChars_ba4f3 64 = .ok (.getstatic 407, 3) := by decide +kernel
theorem dJ2_getChars_ba4f3_67 : decode cJ2_getChars_ba4f3 67 = .ok (.iload 4, 2) := by decide +kernel
theorem dJ2_getChars_ba4f3_69 : decode cJ2_getChars_ba4f3 69 = .ok (.baload, 1) := by decide +kernel
theorem dJ2_getChars_ba4f3_70 : decode cJ2_getChars_ba4f3 70 = .ok (.invokestatic 111, 3) := by decide +kernel
theorem dJ2_getChars_ba4f3_73 : decode cJ2_getChars_ba4f3 73 = .ok (.goto (-51), 3) := by decide +kernel
theorem dJ2_getChars_ba4f3_76 : decode cJ2_getChars_ba4f3 76 = .ok (.aload_n 2, 1) := by decide +kernel
theorem dJ2_getChars_ba4f3_77 : decode cJ2_getChars_ba4f3 77 = .ok (.iinc 5 (-1), 3) := by decide +kernel
theorem dJ2_getChars_ba4f3_80 : decode cJ2_getChars_ba4f3 80 = .ok (.iload 5, 2) := by decide +kernel
theorem dJ2_getChars_ba4f3_82 : decode cJ2_getChars_ba4f3 82 = .ok (.getstatic 403, 3) := by decide +kernel
theorem dJ2_getChars_ba4f3_85 : decode cJ2_getChars_ba4f3 85 = .ok (.iload_n 0, 1) := by decide +kernel
theorem dJ2_getChars_ba4f3_86 : decode cJ2_getChars_ba4f3 86 = .ok (.ineg, 1) := by decide +kernel
theorem dJ2_getChars_ba4f3_87 : decode cJ2_getChars_ba4f3 87 = .ok (.baload, 1) := by decide +kernel
theorem dJ2_getChars_ba4f3_88 : decode cJ2_getChars_ba4f3 88 = .ok (.invokestatic 111, 3) := by decide +kernel
theorem dJ2_getChars_ba4f3_91 : decode cJ2_getChars_ba4f3 91 = .ok (.iload_n 0, 1) := by decide +kernel
theorem dJ2_getChars_ba4f3_92 : decode cJ2_getChars_ba4f3 92 = .ok (.bipush (-9), 2) := by decide +kernel
theorem dJ2_getChars_ba4f3_94 : decode cJ2_getChars_ba4f3 94 = .ok (.if_icmp .ge 18, 3) := by decide +kernel
theorem dJ2_getChars_ba4f3_97 : decode cJ2_getChars_ba4f3 97 = .ok (.aload_n 2, 1) := by decide +kernel
theorem dJ2_getChars_ba4f3_98 : decode cJ2_getChars_ba4f3 98 = .ok (.iinc 5 (-1), 3) := by decide +kernel
theorem dJ2_getChars_ba4f3_101 : decode cJ2_getChars_ba4f3 101 = .ok (.iload 5, 2) := by decide +kernel
theorem dJ2_getChars_ba4f3_103 : decode cJ2_getChars_ba4f3 103 = .ok (.getstatic 407, 3) := by decide +kernel
theorem dJ2_getChars_ba4f3_106 : decode cJ2_getChars_ba4f3 106 = .ok (.iload_n 0, 1) := by decide +kernel
theorem dJ2_getChars_ba4f3_107 : decode cJ2_getChars_ba4f3 107 = .ok (.ineg, 1) := by decide +kernel
theorem dJ2_getChars_ba4f3_108 : decode cJ2_getChars_ba4f3 108 = .ok (.baload, 1) := by decide +kernel
theorem dJ2_getChars_ba4f3_109 : decode cJ2_getChars_ba4f3 109 = .ok (.invokestatic 111, 3) := by decide +kernel
theorem dJ2_getChars_ba4f3_112 : decode cJ2_getChars_ba4f3 112 = .ok (.iload 6, 2) := by decide +kernel
theorem dJ2_getChars_ba4f3_114 : decode cJ2_getChars_ba4f3 114 = .ok (.ifCond .eq 14, 3) := by decide +kernel
theorem dJ2_getChars_ba4f3_117 : decode cJ2_getChars_ba4f3 117 = .ok (.aload_n 2, 1) := by decide +kernel
theorem dJ2_getChars_ba4f3_118 : decode cJ2_getChars_ba4f3 118 = .ok (.iinc 5 (-1), 3) := by decide +kernel
theorem dJ2_getChars_ba4f3_121 : decode cJ2_getChars_ba4f3 121 = .ok (.iload 5, 2) := by decide +kernel
theorem dJ2_getChars_ba4f3_123 : decode cJ2_getChars_ba4f3 123 = .ok (.bipush 45, 2) := by decide +kernel
theorem dJ2_getChars_ba4f3_125 : decode cJ2_getChars_ba4f3 125 = .ok (.invokestatic 111, 3) := by decide +kernel
theorem dJ2_getChars_ba4f3_128 : decode cJ2_getChars_ba4f3 128 = .ok (.iload 5, 2) := by decide +kernel
theorem dJ2_getChars_ba4f3_130 : decode cJ2_getChars_ba4f3 130 = .ok (.ireturn, 1) := by decide +kernel
theorem dJ2_checkIndex_2214a_0 : decode cJ2_checkIndex_2214a 0 = .ok (.iload_n 0, 1) := by decide +kernel
theorem dJ2_checkIndex_2214a_1 : decode cJ2_checkIndex_2214a 1 = .ok (.aload_n 1, 1) := by decide +kernel
theorem dJ2_checkIndex_2214a_2 : decode cJ2_checkIndex_2214a 2 = .ok (.invokestatic 48, 3) := by decide +kernel
theorem dJ2_checkIndex_2214a_5 : decode cJ2_checkIndex_2214a 5 = .ok (.invokestatic 414, 3) := by decide +kernel
theorem dJ2_checkIndex_2214a_8 : decode cJ2_checkIndex_2214a 8 = .ok (.return_, 1) := by decide +kernel
theorem dJ2_checkBoundsBeginEnd_d044e_0 : decode cJ2_checkBoundsBeginEnd_d044e 0 = .ok (.iload_n 0, 1) := by decide +kernel
theorem dJ2_checkBoundsBeginEnd_d044e_1 : decode cJ2_checkBoundsBeginEnd_d044e 1 = .ok (.iload_n 1, 1) := by decide +kernel
theorem dJ2_checkBoundsBeginEnd_d044e_2 : decode cJ2_checkBoundsBeginEnd_d044e 2 = .ok (.aload_n 2, 1) := by decide +kernel
theorem dJ2_checkBoundsBeginEnd_d044e_3 : decode cJ2_checkBoundsBeginEnd_d044e 3 = .ok (.invokestatic 48, 3) := by decide +kernel
theorem dJ2_checkBoundsBeginEnd_d044e_6 : decode cJ2_checkBoundsBeginEnd_d044e 6 = .ok (.invokestatic 241, 3) := by decide +kernel
theorem dJ2_checkBoundsBeginEnd_d044e_9 : decode cJ2_checkBoundsBeginEnd_d044e 9 = .ok (.return_, 1) := by decide +kernel
theorem dJ2_checkBoundsOffCount_d044e_0 : decode cJ2_checkBoundsOffCount_d044e 0 = .ok (.iload_n 0, 1) := by decide +kernel
theorem dJ2_checkBoundsOffCount_d044e_1 : decode cJ2_checkBoundsOffCount_d044e 1 = .ok (.iload_n 1, 1) := by decide +kernel
theorem dJ2_checkBoundsOffCount_d044e_2 : decode cJ2_checkBoundsOffCount_d044e 2 = .ok (.aload_n 2, 1) := by decide +kernel
theorem dJ2_checkBoundsOffCount_d044e_3 : decode cJ2_checkBoundsOffCount_d044e 3 = .ok (.invokestatic 48, 3) := by decide +kernel
theorem dJ2_checkBoundsOffCount_d044e_6 : decode cJ2_checkBoundsOffCount_d044e 6 = .ok (.invokestatic 419, 3) := by decide +kernel
theorem dJ2_checkBoundsOffCount_d044e_9 : decode cJ2_checkBoundsOffCount_d044e 9 = .ok (.pop, 1) := by decide +kernel
theorem dJ2_checkBoundsOffCount_d044e_10 : decode cJ2_checkBoundsOffCount_d044e 10 = .ok (.return_, 1) := by decide +kernel
theorem dJxa1e45_init_da8c8_0 : decode cJxa1e45_init_da8c8 0 = .ok (.aload_n 0, 1) := by decide +kernel
theorem dJxa1e45_init_da8c8_1 : decode cJxa1e45_init_da8c8 1 = .ok (.invokespecial 1, 3) := by decide +kernel
theorem dJxa1e45_init_da8c8_4 : decode cJxa1e45_init_da8c8 4 = .ok (.return_, 1) := by decide +kernel
theorem dJxc12de_init_da8c8_0 : decode cJxc12de_init_da8c8 0 = .ok (.aload_n 0, 1) := by decide +kernel
theorem dJxc12de_init_da8c8_1 : decode cJxc12de_init_da8c8 1 = .ok (.invokespecial 1, 3) := by decide +kernel
theorem dJxc12de_init_da8c8_4 : decode cJxc12de_init_da8c8 4 = .ok (.aload_n 0, 1) := by decide +kernel
theorem dJxc12de_init_da8c8_5 : decode cJxc12de_init_da8c8 5 = .ok (.iconst 0, 1) := by decide +kernel
theorem dJxc12de_init_da8c8_6 : decode cJxc12de_init_da8c8 6 = .ok (.putfield 7, 3) := by decide +kernel
theorem dJxc12de_init_da8c8_9 : decode cJxc12de_init_da8c8 9 = .ok (.return_, 1) := by decide +kernel
theorem dJx35411_init_45d68_0 : decode cJx35411_init_45d68 0 = .ok (.aload_n 0, 1) := by decide +kernel
theorem dJx35411_init_45d68_1 : decode cJx35411_init_45d68 1 = .ok (.aload_n 1, 1) := by decide +kernel
theorem dJx35411_init_45d68_2 : decode cJx35411_init_45d68 2 = .ok (.putfield 1, 3) := by decide +kernel
theorem dJx35411_init_45d68_5 : decode cJx35411_init_45d68 5 = .ok (.aload_n 0, 1) := by decide +kernel
theorem dJx35411_init_45d68_6 : decode cJx35411_init_45d68 6 = .ok (.invokespecial 7, 3) := by decide +kernel
theorem dJx35411_init_45d68_9 : decode cJx35411_init_45d68 9 = .ok (.aload_n 0, 1) := by decide +kernel
theorem dJx35411_init_45d68_10 : decode cJx35411_init_45d68 10 = .ok (.iconst (-1), 1) := by decide +kernel
theorem dJx35411_init_45d68_11 : decode cJx35411_init_45d68 11 = .ok (.putfield 13, 3) := by decide +kernel
theorem dJx35411_init_45d68_14 : decode cJx35411_init_45d68 14 = .ok (.aload_n 0, 1) := by decide +kernel
theorem dJx35411_init_45d68_15 : decode cJx35411_init_45d68 15 = .ok (.aload_n 0, 1) := by decide +kernel
theorem dJx35411_init_45d68_16 : decode cJx35411_init_45d68 16 = .ok (.getfield 1, 3) := by decide +kernel
theorem dJx35411_init_45d68_19 : decode cJx35411_init_45d68 19 = .ok (.getfield 17, 3) := by decide +kernel
theorem dJx35411_init_45d68_22 : decode cJx35411_init_45d68 22 = .ok (.putfield 22, 3) := by decide +kernel
theorem dJx35411_init_45d68_25 : decode cJx35411_init_45d68 25 = .ok (.return_, 1) := by decide +kernel
theorem dJx35411_hasNext_aae02_0 : decode cJx35411_hasNext_aae02 0 = .ok (.aload_n 0, 1) := by decide +kernel
theorem dJx35411_hasNext_aae02_1 : decode cJx35411_hasNext_aae02 1 = .ok (.getfield 25, 3) := by decide +kernel
theorem dJx35411_hasNext_aae02_4 : decode cJx35411_hasNext_aae02 4 = .ok (.aload_n 0, 1) := by decide +kernel
theorem dJx35411_hasNext_aae02_5 : decode cJx35411_hasNext_aae02 5 = .ok (.getfield 1, 3) := by decide +kernel
theorem dJx35411_hasNext_aae02_8 : decode cJx35411_hasNext_aae02 8 = .ok (.getfield 28, 3) := by decide +kernel
theorem dJx35411_hasNext_aae02_11 : decode cJx35411_hasNext_aae02 11 = .ok (.if_icmp .eq 7, 3) := by decide +kernel
theorem dJx35411_hasNext_aae02_14 : decode cJx35411_hasNext_aae02 14 = .ok (.iconst 1, 1) := by decide +kernel
theorem dJx35411_hasNext_aae02_15 : decode cJx35411_hasNext_aae02 15 = .ok (.goto 4, 3) := by decide +kernel
theorem dJx35411_hasNext_aae02_18 : decode cJx35411_hasNext_aae02 18 = .ok (.iconst 0, 1) := by decide +kernel
theorem dJx35411_hasNext_aae02_19 : decode cJx35411_hasNext_aae02 19 = .ok (.ireturn, 1) := by decide +kernel
theorem dJx35411_next_0502b_0 : decode cJx35411_next_0502b 0 = .ok (.aload_n 0, 1) := by decide +kernel
theorem dJx35411_next_0502b_1 : decode cJx35411_next_0502b 1 = .ok (.invokevirtual 31, 3) := by decide +kernel
theorem dJx35411_next_0502b_4 : decode cJx35411_next_0502b 4 = .ok (.aload_n 0, 1) := by decide +kernel
theorem dJx35411_next_0502b_5 : decode cJx35411_next_0502b 5 = .ok (.getfield 25, 3) := by decide +kernel
theorem dJx35411_next_0502b_8 : decode cJx35411_next_0502b 8 = .ok (.istore_n 1, 1) := by decide +kernel
theorem dJx35411_next_0502b_9 : decode cJx35411_next_0502b 9 = .ok (.iload_n 1, 1) := by decide +kernel
theorem dJx35411_next_0502b_10 : decode cJx35411_next_0502b 10 = .ok (.aload_n 0, 1) := by decide +kernel
theorem dJx35411_next_0502b_11 : decode cJx35411_next_0502b 11 = .ok (.getfield 1, 3) := by decide +kernel
theorem dJx35411_next_0502b_14 : decode cJx35411_next_0502b 14 = .ok (.getfield 28, 3) := by decide +kernel
theorem dJx35411_next_0502b_17 : decode cJx35411_next_0502b 17 = .ok (.if_icmp .lt 11, 3) := by decide +kernel
theorem dJx35411_next_0502b_20 : decode cJx35411_next_0502b 20 = .ok (.new 34, 3) := by decide +kernel
theorem dJx35411_next_0502b_23 : decode cJx35411_next_0502b 23 = .ok (.dup, 1) := by decide +kernel
theorem dJx35411_next_0502b_24 : decode cJx35411_next_0502b 24 = .ok (.invokespecial 36, 3) := by decide +kernel
theorem dJx35411_next_0502b_27 : decode cJx35411_next_0502b 27 = .ok (.athrow, 1) := by decide +kernel
theorem dJx35411_next_0502b_28 : decode cJx35411_next_0502b 28 = .ok (.aload_n 0, 1) := by decide +kernel
theorem dJx35411_next_0502b_29 : decode cJx35411_next_0502b 29 = .ok (.getfield 1, 3) := by decide +kernel
theorem dJx35411_next_0502b_32 : decode cJx35411_next_0502b 32 = .ok (.getfield 37, 3) := by decide +kernel
theorem dJx35411_next_0502b_35 : decode cJx35411_next_0502b 35 = .ok (.astore_n 2, 1) := by decide +kernel
theorem dJx35411_next_0502b_36 : decode cJx35411_next_0502b 36 = .ok (.iload_n 1, 1) := by decide +kernel
theorem dJx35411_next_0502b_37 : decode cJx35411_next_0502b 37 = .ok (.aload_n 2, 1) := by decide +kernel
theorem dJx35411_next_0502b_38 : decode cJx35411_next_0502b 38 = .ok (.arraylength, 1) := by decide +kernel
theorem dJx35411_next_0502b_39 : decode cJx35411_next_0502b 39 = .ok (.if_icmp .lt 11, 3) := by decide +kernel
theorem dJx35411_next_0502b_42 : decode cJx35411_next_0502b 42 = .ok (.new 41, 3) := by decide +kernel
theorem dJx35411_next_0502b_45 : decode cJx35411_next_0502b 45 = .ok (.dup, 1) := by decide +kernel
theorem dJx35411_next_0502b_46 : decode cJx35411_next_0502b 46 = .ok (.invokespecial 43, 3) := by decide +kernel
theorem dJx35411_next_0502b_49 : decode cJx35411_next_0502b 49 = .ok (.athrow, 1) := by decide +kernel
theorem dJx35411_next_0502b_50 : decode cJx35411_next_0502b 50 = .ok (.aload_n 0, 1) := by decide +kernel
theorem dJx35411_next_0502b_51 : decode cJx35411_next_0502b 51 = .ok (.iload_n 1, 1) := by decide +kernel
theorem dJx35411_next_0502b_52 : decode cJx35411_next_0502b 52 = .ok (.iconst 1, 1) := by decide +kernel
theorem dJx35411_next_0502b_53 : decode cJx35411_next_0502b 53 = .ok (.iadd, 1) := by decide +kernel
theorem dJx35411_next_0502b_54 : decode cJx35411_next_0502b 54 = .ok (.putfield 25, 3) := by decide +kernel
theorem dJx35411_next_0502b_57 : decode cJx35411_next_0502b 57 = .ok (.aload_n 2, 1) := by decide +kernel
theorem dJx35411_next_0502b_58 : decode cJx35411_next_0502b 58 = .ok (.aload_n 0, 1) := by decide +kernel
theorem dJx35411_next_0502b_59 : decode cJx35411_next_0502b 59 = .ok (.iload_n 1, 1) := by decide +kernel
theorem dJx35411_next_0502b_60 : decode cJx35411_next_0502b 60 = .ok (.dup_x1, 1) := by decide +kernel
theorem dJx35411_next_0502b_61 : decode cJx35411_next_0502b 61 = .ok (.putfield 13, 3) := by decide +kernel
theorem dJx35411_next_0502b_64 : decode cJx35411_next_0502b 64 = .ok (.aaload, 1) := by decide +kernel
theorem dJx35411_next_0502b_65 : decode cJx35411_next_0502b 65 = .ok (.areturn, 1) := by decide +kernel
theorem dJx35411_checkForComodification_da8c8_0 : decode cJx35411_checkForComodification_da8c8 0 = .ok (.aload_n 0, 1) := by decide +kernel
theorem dJx35411_checkForComodification_da8c8_1 : decode cJx35411_checkForComodification_da8c8 1 = .ok (.getfield 1, 3) := by decide +kernel
theorem dJx35411_checkForComodification_da8c8_4 : decode cJx35411_checkForComodification_da8c8 4 = .ok (.getfield 17, 3) := by decide +kernel
theorem dJx35411_checkForComodification_da8c8_7 : decode cJx35411_checkForComodification_da8c8 7 = .ok (.aload_n 0, 1) := by decide +kernel
theorem dJx35411_checkForComodification_da8c8_8 : decode cJx35411_checkForComodification_da8c8 8 = .ok (.getfield 22, 3) := by decide +kernel
theorem dJx35411_checkForComodification_da8c8_11 : decode cJx35411_checkForComodification_da8c8 11 = .ok (.if_icmp .eq 11, 3) := by decide +kernel
theorem dJx35411_checkForComodification_da8c8_14 : decode cJx35411_checkForComodification_da8c8 14 = .ok (.new 41, 3) := by decide +kernel
theorem dJx35411_checkForComodification_da8c8_17 : decode cJx35411_checkForComodification_da8c8 17 = .ok (.dup, 1) := by decide +kernel
theorem dJx35411_checkForComodification_da8c8_18 : decode cJx35411_checkForComodification_da8c8 18 = .ok (.invokespecial 43, 3) := by decide +kernel
theorem dJx35411_checkForComodification_da8c8_21 : decode cJx35411_checkForComodification_da8c8 21 = .ok (.athrow, 1) := by decide +kernel
theorem dJx35411_checkForComodification_da8c8_22 : decode cJx35411_checkForComodification_da8c8 22 = .ok (.return_, 1) := by decide +kernel
theorem dJx4a65c_init_da8c8_0 : decode cJx4a65c_init_da8c8 0 = .ok (.aload_n 0, 1) := by decide +kernel
theorem dJx4a65c_init_da8c8_1 : decode cJx4a65c_init_da8c8 1 = .ok (.invokespecial 1, 3) := by decide +kernel
theorem dJx4a65c_init_da8c8_4 : decode cJx4a65c_init_da8c8 4 = .ok (.aload_n 0, 1) := by decide +kernel
theorem dJx4a65c_init_da8c8_5 : decode cJx4a65c_init_da8c8 5 = .ok (.getstatic 39, 3) := by decide +kernel
theorem dJx4a65c_init_da8c8_8 : decode cJx4a65c_init_da8c8 8 = .ok (.putfield 9, 3) := by decide +kernel
theorem dJx4a65c_init_da8c8_11 : decode cJx4a65c_init_da8c8 11 = .ok (.return_, 1) := by decide +kernel
theorem dJx4a65c_grow_92f84_0 : decode cJx4a65c_grow_92f84 0 = .ok (.aload_n 0, 1) := by decide +kernel
theorem dJx4a65c_grow_92f84_1 : decode cJx4a65c_grow_92f84 1 = .ok (.getfield 9, 3) := by decide +kernel
theorem dJx4a65c_grow_92f84_4 : decode cJx4a65c_grow_92f84 4 = .ok (.arraylength, 1) := by decide +kernel
theorem dJx4a65c_grow_92f84_5 : decode cJx4a65c_grow_92f84 5 = .ok (.istore_n 2, 1) := by decide +kernel
theorem dJx4a65c_grow_92f84_6 : decode cJx4a65c_grow_92f84 6 = .ok (.iload_n 2, 1) := by decide +kernel
theorem dJx4a65c_grow_92f84_7 : decode cJx4a65c_grow_92f84 7 = .ok (.ifCond .gt 13, 3) := by decide +kernel
theorem dJx4a65c_grow_92f84_10 : decode cJx4a65c_grow_92f84 10 = .ok (.aload_n 0, 1) := by decide +kernel
theorem dJx4a65c_grow_92f84_11 : decode cJx4a65c_grow_92f84 11 = .ok (.getfield 9, 3) := by decide +kernel
theorem dJx4a65c_grow_92f84_14 : decode cJx4a65c_grow_92f84 14 = .ok (.getstatic 39, 3) := by decide +kernel
theorem dJx4a65c_grow_92f84_17 : decode cJx4a65c_grow_92f84 17 = .ok (.if_acmp .eq 28, 3) := by decide +kernel
theorem dJx4a65c_grow_92f84_20 : decode cJx4a65c_grow_92f84 20 = .ok (.iload_n 2, 1) := by decide +kernel
theorem dJx4a65c_grow_92f84_21 : decode cJx4a65c_grow_92f84 21 = .ok (.iload_n 1, 1) := by decide +kernel
theorem dJx4a65c_grow_92f84_22 : decode cJx4a65c_grow_92f84 22 = .ok (.iload_n 2, 1) := by decide +kernel
theorem dJx4a65c_grow_92f84_23 : decode cJx4a65c_grow_92f84 23 = .ok (.isub, 1) := by decide +kernel
theorem dJx4a65c_grow_92f84_24 : decode cJx4a65c_grow_92f84 24 = .ok (.iload_n 2, 1) := by decide +kernel
theorem dJx4a65c_grow_92f84_25 : decode cJx4a65c_grow_92f84 25 = .ok (.iconst 1, 1) := by decide +kernel
theorem dJx4a65c_grow_92f84_26 : decode cJx4a65c_grow_92f84 26 = .ok (.ishr, 1) := by decide +kernel
theorem dJx4a65c_grow_92f84_27 : decode cJx4a65c_grow_92f84 27 = .ok (.invokestatic 73, 3) := by decide +kernel
theorem dJx4a65c_grow_92f84_30 : decode cJx4a65c_grow_92f84 30 = .ok (.istore_n 3, 1) := by decide +kernel
theorem dJx4a65c_grow_92f84_31 : decode cJx4a65c_grow_92f84 31 = .ok (.aload_n 0, 1) := by decide +kernel
theorem dJx4a65c_grow_92f84_32 : decode cJx4a65c_grow_92f84 32 = .ok (.aload_n 0, 1) := by decide +kernel
theorem dJx4a65c_grow_92f84_33 : decode cJx4a65c_grow_92f84 33 = .ok (.getfield 9, 3) := by decide +kernel
theorem dJx4a65c_grow_92f84_36 : decode cJx4a65c_grow_92f84 36 = .ok (.iload_n 3, 1) := by decide +kernel
theorem dJx4a65c_grow_92f84_37 : decode cJx4a65c_grow_92f84 37 = .ok (.invokestatic 66, 3) := by decide +kernel
theorem dJx4a65c_grow_92f84_40 : decode cJx4a65c_grow_92f84 40 = .ok (.dup_x1, 1) := by decide +kernel
theorem dJx4a65c_grow_92f84_41 : decode cJx4a65c_grow_92f84 41 = .ok (.putfield 9, 3) := by decide +kernel
theorem dJx4a65c_grow_92f84_44 : decode cJx4a65c_grow_92f84 44 = .ok (.areturn, 1) := by decide +kernel
theorem dJx4a65c_grow_92f84_45 : decode cJx4a65c_grow_92f84 45 = .ok (.aload_n 0, 1) := by decide +kernel
theorem dJx4a65c_grow_92f84_46 : decode cJx4a65c_grow_92f84 46 = .ok (.bipush 10, 2) := by decide +kernel
theorem dJx4a65c_grow_92f84_48 : decode cJx4a65c_grow_92f84 48 = .ok (.iload_n 1, 1) := by decide +kernel
theorem dJx4a65c_grow_92f84_49 : decode cJx4a65c_grow_92f84 49 = .ok (.invokestatic 79, 3) := by decide +kernel
theorem dJx4a65c_grow_92f84_52 : decode cJx4a65c_grow_92f84 52 = .ok (.anewarray 7, 3) := by decide +kernel
theorem dJx4a65c_grow_92f84_55 : decode cJx4a65c_grow_92f84 55 = .ok (.dup_x1, 1) := by decide +kernel
theorem dJx4a65c_grow_92f84_56 : decode cJx4a65c_grow_92f84 56 = .ok (.putfield 9, 3) := by decide +kernel
theorem dJx4a65c_grow_92f84_59 : decode cJx4a65c_grow_92f84 59 = .ok (.areturn, 1) := by decide +kernel
theorem dJx4a65c_grow_d5877_0 : decode cJx4a65c_grow_d5877 0 = .ok (.aload_n 0, 1) := by decide +kernel
theorem dJx4a65c_grow_d5877_1 : decode cJx4a65c_grow_d5877 1 = .ok (.aload_n 0, 1) := by decide +kernel
theorem dJx4a65c_grow_d5877_2 : decode cJx4a65c_grow_d5877 2 = .ok (.getfield 48, 3) := by decide +kernel
theorem dJx4a65c_grow_d5877_5 : decode cJx4a65c_grow_d5877 5 = .ok (.iconst 1, 1) := by decide +kernel
theorem dJx4a65c_grow_d5877_6 : decode cJx4a65c_grow_d5877 6 = .ok (.iadd, 1) := by decide +kernel
theorem dJx4a65c_grow_d5877_7 : decode cJx4a65c_grow_d5877 7 = .ok (.invokevirtual 69, 3) := by decide +kernel
theorem dJx4a65c_grow_d5877_10 : decode cJx4a65c_grow_d5877 10 = .ok (.areturn, 1) := by decide +kernel
theorem dJx4a65c_size_8abf5_0 : decode cJx4a65c_size_8abf5 0 = .ok (.aload_n 0, 1) := by decide +kernel
theorem dJx4a65c_size_8abf5_1 : decode cJx4a65c_size_8abf5 1 = .ok (.getfield 48, 3) := by decide +kernel
theorem dJx4a65c_size_8abf5_4 : decode cJx4a65c_size_8abf5 4 = .ok (.ireturn, 1) := by decide +kernel
theorem dJx4a65c_isEmpty_aae02_0 : decode cJx4a65c_isEmpty_aae02 0 = .ok (.aload_n 0, 1) := by decide +kernel
theorem dJx4a65c_isEmpty_aae02_1 : decode cJx4a65c_isEmpty_aae02 1 = .ok (.getfield 48, 3) := by decide +kernel
theorem dJx4a65c_isEmpty_aae02_4 : decode cJx4a65c_isEmpty_aae02 4 = .ok (.ifCond .ne 7, 3) := by decide +kernel
theorem dJx4a65c_isEmpty_aae02_7 : decode cJx4a65c_isEmpty_aae02 7 = .ok (.iconst 1, 1) := by decide +kernel
theorem dJx4a65c_isEmpty_aae02_8 : decode cJx4a65c_isEmpty_aae02 8 = .ok (.goto 4, 3) := by decide +kernel
theorem dJx4a65c_isEmpty_aae02_11 : decode cJx4a65c_isEmpty_aae02 11 = .ok (.iconst 0, 1) := by decide +kernel
theorem dJx4a65c_isEmpty_aae02_12 : decode cJx4a65c_isEmpty_aae02 12 = .ok (.ireturn, 1) := by decide +kernel
theorem dJx4a65c_elementData_915e3_0 : decode cJx4a65c_elementData_915e3 0 = .ok (.aload_n 0, 1) := by decide +kernel
theorem dJx4a65c_elementData_915e3_1 : decode cJx4a65c_elementData_915e3 1 = .ok (.getfield 9, 3) := by decide +kernel
theorem dJx4a65c_elementData_915e3_4 : decode cJx4a65c_elementData_915e3 4 = .ok (.iload_n 1, 1) := by decide +kernel
theorem dJx4a65c_elementData_915e3_5 : decode cJx4a65c_elementData_915e3 5 = .ok (.aaload, 1) := by decide +kernel
theorem dJx4a65c_elementData_915e3_6 : decode cJx4a65c_elementData_915e3 6 = .ok (.areturn, 1) := by decide +kernel
theorem dJx4a65c_get_915e3_0 : decode cJx4a65c_get_915e3 0 = .ok (.iload_n 1, 1) := by decide +kernel
theorem dJx4a65c_get_915e3_1 : decode cJx4a65c_get_915e3 1 = .ok (.aload_n 0, 1) := by decide +kernel
theorem dJx4a65c_get_915e3_2 : decode cJx4a65c_get_915e3 2 = .ok (.getfield 48, 3) := by decide +kernel
theorem dJx4a65c_get_915e3_5 : decode cJx4a65c_get_915e3 5 = .ok (.invokestatic 118, 3) := by decide +kernel
theorem dJx4a65c_get_915e3_8 : decode cJx4a65c_get_915e3 8 = .ok (.pop, 1) := by decide +kernel
theorem dJx4a65c_get_915e3_9 : decode cJx4a65c_get_915e3 9 = .ok (.aload_n 0, 1) := by decide +kernel
theorem dJx4a65c_get_915e3_10 : decode cJx4a65c_get_915e3 10 = .ok (.iload_n 1, 1) := by decide +kernel
theorem dJx4a65c_get_915e3_11 : decode cJx4a65c_get_915e3 11 = .ok (.invokevirtual 123, 3) := by decide +kernel
theorem dJx4a65c_get_915e3_14 : decode cJx4a65c_get_915e3 14 = .ok (.areturn, 1) := by decide +kernel
theorem dJx4a65c_add_72be8_0 : decode cJx4a65c_add_72be8 0 = .ok (.iload_n 3, 1) := by decide +kernel
theorem dJx4a65c_add_72be8_1 : decode cJx4a65c_add_72be8 1 = .ok (.aload_n 2, 1) := by decide +kernel
theorem dJx4a65c_add_72be8_2 : decode cJx4a65c_add_72be8 2 = .ok (.arraylength, 1) := by decide +kernel
theorem dJx4a65c_add_72be8_3 : decode cJx4a65c_add_72be8 3 = .ok (.if_icmp .ne 8, 3) := by decide +kernel
theorem dJx4a65c_add_72be8_6 : decode cJx4a65c_add_72be8 6 = .ok (.aload_n 0, 1) := by decide +kernel
theorem dJx4a65c_add_72be8_7 : decode cJx4a65c_add_72be8 7 = .ok (.invokevirtual 129, 3) := by decide +kernel
theorem dJx4a65c_add_72be8_10 : decode cJx4a65c_add_72be8 10 = .ok (.astore_n 2, 1) := by decide +kernel
theorem dJx4a65c_add_72be8_11 : decode cJx4a65c_add_72be8 11 = .ok (.aload_n 2, 1) := by decide +kernel
theorem dJx4a65c_add_72be8_12 : decode cJx4a65c_add_72be8 12 = .ok (.iload_n 3, 1) := by decide +kernel
theorem dJx4a65c_add_72be8_13 : decode cJx4a65c_add_72be8 13 = .ok (.aload_n 1, 1) := by decide +kernel
theorem dJx4a65c_add_72be8_14 : decode cJx4a65c_add_72be8 14 = .ok (.aastore, 1) := by decide +kernel
theorem dJx4a65c_add_72be8_15 : decode cJx4a65c_add_72be8 15 = .ok (.aload_n 0, 1) := by decide +kernel
theorem dJx4a65c_add_72be8_16 : decode cJx4a65c_add_72be8 16 = .ok (.iload_n 3, 1) := by decide +kernel
theorem dJx4a65c_add_72be8_17 : decode cJx4a65c_add_72be8 17 = .ok (.iconst 1, 1) := by decide +kernel
theorem dJx4a65c_add_72be8_18 : decode cJx4a65c_add_72be8 18 = .ok (.iadd, 1) := by decide +kernel
theorem dJx4a65c_add_72be8_19 : decode cJx4a65c_add_72be8 19 = .ok (.putfield 48, 3) := by decide +kernel
theorem dJx4a65c_add_72be8_22 : decode cJx4a65c_add_72be8 22 = .ok (.return_, 1) := by decide +kernel
theorem dJx4a65c_add_9ea2d_0 : decode cJx4a65c_add_9ea2d 0 = .ok (.aload_n 0, 1) := by decide +kernel
theorem dJx4a65c_add_9ea2d_1 : decode cJx4a65c_add_9ea2d 1 = .ok (.dup, 1) := by decide +kernel
theorem dJx4a65c_add_9ea2d_2 : decode cJx4a65c_add_9ea2d 2 = .ok (.getfield 63, 3) := by decide +kernel
theorem dJx4a65c_add_9ea2d_5 : decode cJx4a65c_add_9ea2d 5 = .ok (.iconst 1, 1) := by decide +kernel
theorem dJx4a65c_add_9ea2d_6 : decode cJx4a65c_add_9ea2d 6 = .ok (.iadd, 1) := by decide +kernel
theorem dJx4a65c_add_9ea2d_7 : decode cJx4a65c_add_9ea2d 7 = .ok (.putfield 63, 3) := by decide +kernel
theorem dJx4a65c_add_9ea2d_10 : decode cJx4a65c_add_9ea2d 10 = .ok (.aload_n 0, 1) := by decide +kernel
theorem dJx4a65c_add_9ea2d_11 : decode cJx4a65c_add_9ea2d 11 = .ok (.aload_n 1, 1) := by decide +kernel
theorem dJx4a65c_add_9ea2d_12 : decode cJx4a65c_add_9ea2d 12 = .ok (.aload_n 0, 1) := by decide +kernel
theorem dJx4a65c_add_9ea2d_13 : decode cJx4a65c_add_9ea2d 13 = .ok (.getfield 9, 3) := by decide +kernel
theorem dJx4a65c_add_9ea2d_16 : decode cJx4a65c_add_9ea2d 16 = .ok (.aload_n 0, 1) := by decide +kernel
theorem dJx4a65c_add_9ea2d_17 : decode cJx4a65c_add_9ea2d 17 = .ok (.getfield 48, 3) := by decide +kernel
theorem dJx4a65c_add_9ea2d_20 : decode cJx4a65c_add_9ea2d 20 = .ok (.invokevirtual 131, 3) := by decide +kernel
theorem dJx4a65c_add_9ea2d_23 : decode cJx4a65c_add_9ea2d 23 = .ok (.iconst 1, 1) := by decide +kernel
theorem dJx4a65c_add_9ea2d_24 : decode cJx4a65c_add_9ea2d 24 = .ok (.ireturn, 1) := by decide +kernel
theorem dJx4a65c_remove_915e3_0 : decode cJx4a65c_remove_915e3 0 = .ok (.iload_n 1, 1) := by decide +kernel
theorem dJx4a65c_remove_915e3_1 : decode cJx4a65c_remove_915e3 1 = .ok (.aload_n 0, 1) := by decide +kernel
theorem dJx4a65c_remove_915e3_2 : decode cJx4a65c_remove_915e3 2 = .ok (.getfield 48, 3) := by decide +kernel
theorem dJx4a65c_remove_915e3_5 : decode cJx4a65c_remove_915e3 5 = .ok (.invokestatic 118, 3) := by decide +kernel
theorem dJx4a65c_remove_915e3_8 : decode cJx4a65c_remove_915e3 8 = .ok (.pop, 1) := by decide +kernel
theorem dJx4a65c_remove_915e3_9 : decode cJx4a65c_remove_915e3 9 = .ok (.aload_n 0, 1) := by decide +kernel
theorem dJx4a65c_remove_915e3_10 : decode cJx4a65c_remove_915e3 10 = .ok (.getfield 9, 3) := by decide +kernel
theorem dJx4a65c_remove_915e3_13 : decode cJx4a65c_remove_915e3 13 = .ok (.astore_n 2, 1) := by decide +kernel
theorem dJx4a65c_remove_915e3_14 : decode cJx4a65c_remove_915e3 14 = .ok (.aload_n 2, 1) := by decide +kernel
theorem dJx4a65c_remove_915e3_15 : decode cJx4a65c_remove_915e3 15 = .ok (.iload_n 1, 1) := by decide +kernel
theorem dJx4a65c_remove_915e3_16 : decode cJx4a65c_remove_915e3 16 = .ok (.aaload, 1) := by decide +kernel
theorem dJx4a65c_remove_915e3_17 : decode cJx4a65c_remove_915e3 17 = .ok (.astore_n 3, 1) := by decide +kernel
theorem dJx4a65c_remove_915e3_18 : decode cJx4a65c_remove_915e3 18 = .ok (.aload_n 0, 1) := by decide +kernel
theorem dJx4a65c_remove_915e3_19 : decode cJx4a65c_remove_915e3 19 = .ok (.aload_n 2, 1) := by decide +kernel
theorem dJx4a65c_remove_915e3_20 : decode cJx4a65c_remove_915e3 20 = .ok (.iload_n 1, 1) := by decide +kernel
theorem dJx4a65c_remove_915e3_21 : decode cJx4a65c_remove_915e3 21 = .ok (.invokevirtual 144, 3) := by decide +kernel
theorem dJx4a65c_remove_915e3_24 : decode cJx4a65c_remove_915e3 24 = .ok (.aload_n 3, 1) := by decide +kernel
theorem dJx4a65c_remove_915e3_25 : decode cJx4a65c_remove_915e3 25 = .ok (.areturn, 1) := by decide +kernel
theorem dJx4a65c_fastRemove_b59b0_0 : decode cJx4a65c_fastRemove_b59b0 0 = .ok (.aload_n 0, 1) := by decide +kernel
theorem dJx4a65c_fastRemove_b59b0_1 : decode cJx4a65c_fastRemove_b59b0 1 = .ok (.dup, 1) := by decide +kernel
theorem dJx4a65c_fastRemove_b59b0_2 : decode cJx4a65c_fastRemove_b59b0 2 = .ok (.getfield 63, 3) := by decide +kernel
theorem dJx4a65c_fastRemove_b59b0_5 : decode cJx4a65c_fastRemove_b59b0 5 = .ok (.iconst 1, 1) := by decide +kernel
theorem dJx4a65c_fastRemove_b59b0_6 : decode cJx4a65c_fastRemove_b59b0 6 = .ok (.iadd, 1) := by decide +kernel
theorem dJx4a65c_fastRemove_b59b0_7 : decode cJx4a65c_fastRemove_b59b0 7 = .ok (.putfield 63, 3) := by decide +kernel
theorem dJx4a65c_fastRemove_b59b0_10 : decode cJx4a65c_fastRemove_b59b0 10 = .ok (.aload_n 0, 1) := by decide +kernel
theorem dJx4a65c_fastRemove_b59b0_11 : decode cJx4a65c_fastRemove_b59b0 11 = .ok (.getfield 48, 3) := by decide +kernel
theorem dJx4a65c_fastRemove_b59b0_14 : decode cJx4a65c_fastRemove_b59b0 14 = .ok (.iconst 1, 1) := by decide +kernel
theorem dJx4a65c_fastRemove_b59b0_15 : decode cJx4a65c_fastRemove_b59b0 15 = .ok (.isub, 1) := by decide +kernel
theorem dJx4a65c_fastRemove_b59b0_16 : decode cJx4a65c_fastRemove_b59b0 16 = .ok (.dup, 1) := by decide +kernel
theorem dJx4a65c_fastRemove_b59b0_17 : decode cJx4a65c_fastRemove_b59b0 17 = .ok (.istore_n 3, 1) := by decide +kernel
theorem dJx4a65c_fastRemove_b59b0_18 : decode cJx4a65c_fastRemove_b59b0 18 = .ok (.iload_n 2, 1) := by decide +kernel
theorem dJx4a65c_fastRemove_b59b0_19 : decode cJx4a65c_fastRemove_b59b0 19 = .ok (.if_icmp .le 15, 3) := by decide +kernel
theorem dJx4a65c_fastRemove_b59b0_22 : decode cJx4a65c_fastRemove_b59b0 22 = .ok (.aload_n 1, 1) := by decide +kernel
theorem dJx4a65c_fastRemove_b59b0_23 : decode cJx4a65c_fastRemove_b59b0 23 = .ok (.iload_n 2, 1) := by decide +kernel
theorem dJx4a65c_fastRemove_b59b0_24 : decode cJx4a65c_fastRemove_b59b0 24 = .ok (.iconst 1, 1) := by decide +kernel
theorem dJx4a65c_fastRemove_b59b0_25 : decode cJx4a65c_fastRemove_b59b0 25 = .ok (.iadd, 1) := by decide +kernel
theorem dJx4a65c_fastRemove_b59b0_26 : decode cJx4a65c_fastRemove_b59b0 26 = .ok (.aload_n 1, 1) := by decide +kernel
theorem dJx4a65c_fastRemove_b59b0_27 : decode cJx4a65c_fastRemove_b59b0 27 = .ok (.iload_n 2, 1) := by decide +kernel
theorem dJx4a65c_fastRemove_b59b0_28 : decode cJx4a65c_fastRemove_b59b0 28 = .ok (.iload_n 3, 1) := by decide +kernel
theorem dJx4a65c_fastRemove_b59b0_29 : decode cJx4a65c_fastRemove_b59b0 29 = .ok (.iload_n 2, 1) := by decide +kernel
theorem dJx4a65c_fastRemove_b59b0_30 : decode cJx4a65c_fastRemove_b59b0 30 = .ok (.isub, 1) := by decide +kernel
theorem dJx4a65c_fastRemove_b59b0_31 : decode cJx4a65c_fastRemove_b59b0 31 = .ok (.invokestatic 112, 3) := by decide +kernel
theorem dJx4a65c_fastRemove_b59b0_34 : decode cJx4a65c_fastRemove_b59b0 34 = .ok (.aload_n 1, 1) := by decide +kernel
theorem dJx4a65c_fastRemove_b59b0_35 : decode cJx4a65c_fastRemove_b59b0 35 = .ok (.aload_n 0, 1) := by decide +kernel
theorem dJx4a65c_fastRemove_b59b0_36 : decode cJx4a65c_fastRemove_b59b0 36 = .ok (.iload_n 3, 1) := by decide +kernel
theorem dJx4a65c_fastRemove_b59b0_37 : decode cJx4a65c_fastRemove_b59b0 37 = .ok (.dup_x1, 1) := by decide +kernel
theorem dJx4a65c_fastRemove_b59b0_38 : decode cJx4a65c_fastRemove_b59b0 38 = .ok (.putfield 48, 3) := by decide +kernel
theorem dJx4a65c_fastRemove_b59b0_41 : decode cJx4a65c_fastRemove_b59b0 41 = .ok (.aconst_null, 1) := by decide +kernel
theorem dJx4a65c_fastRemove_b59b0_42 : decode cJx4a65c_fastRemove_b59b0 42 = .ok (.aastore, 1) := by decide +kernel
theorem dJx4a65c_fastRemove_b59b0_43 : decode cJx4a65c_fastRemove_b59b0 43 = .ok (.return_, 1) := by decide +kernel
theorem dJx4a65c_clear_da8c8_0 : decode cJx4a65c_clear_da8c8 0 = .ok (.aload_n 0, 1) := by decide +kernel
theorem dJx4a65c_clear_da8c8_1 : decode cJx4a65c_clear_da8c8 1 = .ok (.dup, 1) := by decide +kernel
theorem dJx4a65c_clear_da8c8_2 : decode cJx4a65c_clear_da8c8 2 = .ok (.getfield 63, 3) := by decide +kernel
theorem dJx4a65c_clear_da8c8_5 : decode cJx4a65c_clear_da8c8 5 = .ok (.iconst 1, 1) := by decide +kernel
theorem dJx4a65c_clear_da8c8_6 : decode cJx4a65c_clear_da8c8 6 = .ok (.iadd, 1) := by decide +kernel
theorem dJx4a65c_clear_da8c8_7 : decode cJx4a65c_clear_da8c8 7 = .ok (.putfield 63, 3) := by decide +kernel
theorem dJx4a65c_clear_da8c8_10 : decode cJx4a65c_clear_da8c8 10 = .ok (.aload_n 0, 1) := by decide +kernel
theorem dJx4a65c_clear_da8c8_11 : decode cJx4a65c_clear_da8c8 11 = .ok (.getfield 9, 3) := by decide +kernel
theorem dJx4a65c_clear_da8c8_14 : decode cJx4a65c_clear_da8c8 14 = .ok (.astore_n 1, 1) := by decide +kernel
theorem dJx4a65c_clear_da8c8_15 : decode cJx4a65c_clear_da8c8 15 = .ok (.aload_n 0, 1) := by decide +kernel
theorem dJx4a65c_clear_da8c8_16 : decode cJx4a65c_clear_da8c8 16 = .ok (.getfield 48, 3) := by decide +kernel
theorem dJx4a65c_clear_da8c8_19 : decode cJx4a65c_clear_da8c8 19 = .ok (.istore_n 2, 1) := by decide +kernel
theorem dJx4a65c_clear_da8c8_20 : decode cJx4a65c_clear_da8c8 20 = .ok (.aload_n 0, 1) := by decide +kernel
theorem dJx4a65c_clear_da8c8_21 : decode cJx4a65c_clear_da8c8 21 = .ok (.iconst 0, 1) := by decide +kernel
theorem dJx4a65c_clear_da8c8_22 : decode cJx4a65c_clear_da8c8 22 = .ok (.dup_x1, 1) := by decide +kernel
theorem dJx4a65c_clear_da8c8_23 : decode cJx4a65c_clear_da8c8 23 = .ok (.putfield 48, 3) := by decide +kernel
theorem dJx4a65c_clear_da8c8_26 : decode cJx4a65c_clear_da8c8 26 = .ok (.istore_n 3, 1) := by decide +kernel
theorem dJx4a65c_clear_da8c8_27 : decode cJx4a65c_clear_da8c8 27 = .ok (.iload_n 3, 1) := by decide +kernel
theorem dJx4a65c_clear_da8c8_28 : decode cJx4a65c_clear_da8c8 28 = .ok (.iload_n 2, 1) := by decide +kernel
theorem dJx4a65c_clear_da8c8_29 : decode cJx4a65c_clear_da8c8 29 = .ok (.if_icmp .ge 13, 3) := by decide +kernel
theorem dJx4a65c_clear_da8c8_32 : decode cJx4a65c_clear_da8c8 32 = .ok (.aload_n 1, 1) := by decide +kernel
theorem dJx4a65c_clear_da8c8_33 : decode cJx4a65c_clear_da8c8 33 = .ok (.iload_n 3, 1) := by decide +kernel
theorem dJx4a65c_clear_da8c8_34 : decode cJx4a65c_clear_da8c8 34 = .ok (.aconst_null, 1) := by decide +kernel
theorem dJx4a65c_clear_da8c8_35 : decode cJx4a65c_clear_da8c8 35 = .ok (.aastore, 1) := by decide +kernel
theorem dJx4a65c_clear_da8c8_36 : decode cJx4a65c_clear_da8c8 36 = .ok (.iinc 3 1, 3) := by decide +kernel
theorem dJx4a65c_clear_da8c8_39 : decode cJx4a65c_clear_da8c8 39 = .ok (.goto (-12), 3) := by decide +kernel
theorem dJx4a65c_clear_da8c8_42 : decode cJx4a65c_clear_da8c8 42 = .ok (.return_, 1) := by decide +kernel
theorem dJx4a65c_iterator_32c93_0 : decode cJx4a65c_iterator_32c93 0 = .ok (.new 267, 3) := by decide +kernel
theorem dJx4a65c_iterator_32c93_3 : decode cJx4a65c_iterator_32c93 3 = .ok (.dup, 1) := by decide +kernel
theorem dJx4a65c_iterator_32c93_4 : decode cJx4a65c_iterator_32c93 4 = .ok (.aload_n 0, 1) := by decide +kernel
theorem dJx4a65c_iterator_32c93_5 : decode cJx4a65c_iterator_32c93 5 = .ok (.invokespecial 269, 3) := by decide +kernel
theorem dJx4a65c_iterator_32c93_8 : decode cJx4a65c_iterator_32c93 8 = .ok (.areturn, 1) := by decide +kernel
theorem dJ7_copyOf_1904c_0 : decode cJ7_copyOf_1904c 0 = .ok (.aload_n 0, 1) := by decide +kernel
theorem dJ7_copyOf_1904c_1 : decode cJ7_copyOf_1904c 1 = .ok (.iload_n 1, 1) := by decide +kernel
theorem dJ7_copyOf_1904c_2 : decode cJ7_copyOf_1904c 2 = .ok (.aload_n 0, 1) := by decide +kernel
theorem dJ7_copyOf_1904c_3 : decode cJ7_copyOf_1904c 3 = .ok (.invokevirtual 86, 3) := by decide +kernel
theorem dJ7_copyOf_1904c_6 : decode cJ7_copyOf_1904c 6 = .ok (.invokestatic 300, 3) := by decide +kernel
theorem dJ7_copyOf_1904c_9 : decode cJ7_copyOf_1904c 9 = .ok (.areturn, 1) := by decide +kernel
theorem dJ7_copyOf_6403c_0 : decode cJ7_copyOf_6403c 0 = .ok (.aload_n 2, 1) := by decide +kernel
theorem dJ7_copyOf_6403c_1 : decode cJ7_copyOf_6403c 1 = .ok (.ldc 110, 2) := by decide +kernel
theorem dJ7_copyOf_6403c_3 : decode cJ7_copyOf_6403c 3 = .ok (.if_acmp .ne 10, 3) := by decide +kernel
theorem dJ7_copyOf_6403c_6 : decode cJ7_copyOf_6403c 6 = .ok (.iload_n 1, 1) := by decide +kernel
theorem dJ7_copyOf_6403c_7 : decode cJ7_copyOf_6403c 7 = .ok (.anewarray 2, 3) := by decide +kernel
theorem dJ7_copyOf_6403c_10 : decode cJ7_copyOf_6403c 10 = .ok (.goto 14, 3) := by decide +kernel
theorem dJ7_copyOf_6403c_13 : decode cJ7_copyOf_6403c 13 = .ok (.aload_n 2, 1) := by decide +kernel
theorem dJ7_copyOf_6403c_14 : decode cJ7_copyOf_6403c 14 = .ok (.invokevirtual 90, 3) := by decide +kernel
theorem dJ7_copyOf_6403c_17 : decode cJ7_copyOf_6403c 17 = .ok (.iload_n 1, 1) := by decide +kernel
theorem dJ7_copyOf_6403c_18 : decode cJ7_copyOf_6403c 18 = .ok (.invokestatic 95, 3) := by decide +kernel
theorem dJ7_copyOf_6403c_21 : decode cJ7_copyOf_6403c 21 = .ok (.checkcast 110, 3) := by decide +kernel
theorem dJ7_copyOf_6403c_24 : decode cJ7_copyOf_6403c 24 = .ok (.astore_n 3, 1) := by decide +kernel
theorem dJ7_copyOf_6403c_25 : decode cJ7_copyOf_6403c 25 = .ok (.aload_n 0, 1) := by decide +kernel
theorem dJ7_copyOf_6403c_26 : decode cJ7_copyOf_6403c 26 = .ok (.iconst 0, 1) := by decide +kernel
theorem dJ7_copyOf_6403c_27 : decode cJ7_copyOf_6403c 27 = .ok (.aload_n 3, 1) := by decide +kernel
theorem dJ7_copyOf_6403c_28 : decode cJ7_copyOf_6403c 28 = .ok (.iconst 0, 1) := by decide +kernel
theorem dJ7_copyOf_6403c_29 : decode cJ7_copyOf_6403c 29 = .ok (.aload_n 0, 1) := by decide +kernel
theorem dJ7_copyOf_6403c_30 : decode cJ7_copyOf_6403c 30 = .ok (.arraylength, 1) := by decide +kernel
theorem dJ7_copyOf_6403c_31 : decode cJ7_copyOf_6403c 31 = .ok (.iload_n 1, 1) := by decide +kernel
theorem dJ7_copyOf_6403c_32 : decode cJ7_copyOf_6403c 32 = .ok (.invokestatic 304, 3) := by decide +kernel
theorem dJ7_copyOf_6403c_35 : decode cJ7_copyOf_6403c 35 = .ok (.invokestatic 150, 3) := by decide +kernel
theorem dJ7_copyOf_6403c_38 : decode cJ7_copyOf_6403c 38 = .ok (.aload_n 3, 1) := by decide +kernel
theorem dJ7_copyOf_6403c_39 : decode cJ7_copyOf_6403c 39 = .ok (.areturn, 1) := by decide +kernel
theorem dJ7_copyOf_9075b_0 : decode cJ7_copyOf_9075b 0 = .ok (.iload_n 1, 1) := by decide +kernel
theorem dJ7_copyOf_9075b_1 : decode cJ7_copyOf_9075b 1 = .ok (.aload_n 0, 1) := by decide +kernel
theorem dJ7_copyOf_9075b_2 : decode cJ7_copyOf_9075b 2 = .ok (.arraylength, 1) := by decide +kernel
theorem dJ7_copyOf_9075b_3 : decode cJ7_copyOf_9075b 3 = .ok (.if_icmp .ne 11, 3) := by decide +kernel
theorem dJ7_copyOf_9075b_6 : decode cJ7_copyOf_9075b 6 = .ok (.aload_n 0, 1) := by decide +kernel
theorem dJ7_copyOf_9075b_7 : decode cJ7_copyOf_9075b 7 = .ok (.invokevirtual 310, 3) := by decide +kernel
theorem dJ7_copyOf_9075b_10 : decode cJ7_copyOf_9075b 10 = .ok (.checkcast 311, 3) := by decide +kernel
theorem dJ7_copyOf_9075b_13 : decode cJ7_copyOf_9075b 13 = .ok (.areturn, 1) := by decide +kernel
theorem dJ7_copyOf_9075b_14 : decode cJ7_copyOf_9075b 14 = .ok (.iload_n 1, 1) := by decide +kernel
theorem dJ7_copyOf_9075b_15 : decode cJ7_copyOf_9075b 15 = .ok (.newarray .byte, 2) := by decide +kernel
theorem dJ7_copyOf_9075b_17 : decode cJ7_copyOf_9075b 17 = .ok (.astore_n 2, 1) := by decide +kernel
theorem dJ7_copyOf_9075b_18 : decode cJ7_copyOf_9075b 18 = .ok (.aload_n 0, 1) := by decide +kernel
theorem dJ7_copyOf_9075b_19 : decode cJ7_copyOf_9075b 19 = .ok (.iconst 0, 1) := by decide +kernel
theorem dJ7_copyOf_9075b_20 : decode cJ7_copyOf_9075b 20 = .ok (.aload_n 2, 1) := by decide +kernel
theorem dJ7_copyOf_9075b_21 : decode cJ7_copyOf_9075b 21 = .ok (.iconst 0, 1) := by decide +kernel
theorem dJ7_copyOf_9075b_22 : decode cJ7_copyOf_9075b 22 = .ok (.aload_n 0, 1) := by decide +kernel
theorem dJ7_copyOf_9075b_23 : decode cJ7_copyOf_9075b 23 = .ok (.arraylength, 1) := by decide +kernel
theorem dJ7_copyOf_9075b_24 : decode cJ7_copyOf_9075b 24 = .ok (.iload_n 1, 1) := by decide +kernel
theorem dJ7_copyOf_9075b_25 : decode cJ7_copyOf_9075b 25 = .ok (.invokestatic 304, 3) := by decide +kernel
theorem dJ7_copyOf_9075b_28 : decode cJ7_copyOf_9075b 28 = .ok (.invokestatic 150, 3) := by decide +kernel
theorem dJ7_copyOf_9075b_31 : decode cJ7_copyOf_9075b 31 = .ok (.aload_n 2, 1) := by decide +kernel
theorem dJ7_copyOf_9075b_32 : decode cJ7_copyOf_9075b 32 = .ok (.areturn, 1) := by decide +kernel
theorem dJ7_checkLength_df160_0 : decode cJ7_checkLength_df160 0 = .ok (.iload_n 1, 1) := by decide +kernel
theorem dJ7_checkLength_df160_1 : decode cJ7_checkLength_df160 1 = .ok (.iload_n 0, 1) := by decide +kernel
theorem dJ7_checkLength_df160_2 : decode cJ7_checkLength_df160 2 = .ok (.if_icmp .ge 35, 3) := by decide +kernel
theorem dJ7_checkLength_df160_5 : decode cJ7_checkLength_df160 5 = .ok (.new 43, 3) := by decide +kernel
theorem dJ7_checkLength_df160_8 : decode cJ7_checkLength_df160 8 = .ok (.dup, 1) := by decide +kernel
theorem dJ7_checkLength_df160_9 : decode cJ7_checkLength_df160 9 = .ok (.new 45, 3) := by decide +kernel
theorem dJ7_checkLength_df160_12 : decode cJ7_checkLength_df160 12 = .ok (.dup, 1) := by decide +kernel
theorem dJ7_checkLength_df160_13 : decode cJ7_checkLength_df160 13 = .ok (.invokespecial 47, 3) := by decide +kernel
theorem dJ7_checkLength_df160_16 : decode cJ7_checkLength_df160 16 = .ok (.iload_n 0, 1) := by decide +kernel
theorem dJ7_checkLength_df160_17 : decode cJ7_checkLength_df160 17 = .ok (.invokevirtual 54, 3) := by decide +kernel
theorem dJ7_checkLength_df160_20 : decode cJ7_checkLength_df160 20 = .ok (.ldc_w 337, 3) := by decide +kernel
theorem dJ7_checkLength_df160_23 : decode cJ7_checkLength_df160 23 = .ok (.invokevirtual 50, 3) := by decide +kernel
theorem dJ7_checkLength_df160_26 : decode cJ7_checkLength_df160 26 = .ok (.iload_n 1, 1) := by decide +kernel
theorem dJ7_checkLength_df160_27 : decode cJ7_checkLength_df160 27 = .ok (.invokevirtual 54, 3) := by decide +kernel
theorem dJ7_checkLength_df160_30 : decode cJ7_checkLength_df160 30 = .ok (.invokevirtual 61, 3) := by decide +kernel
theorem dJ7_checkLength_df160_33 : decode cJ7_checkLength_df160 33 = .ok (.invokespecial 65, 3) := by decide +kernel
theorem dJ7_checkLength_df160_36 : decode cJ7_checkLength_df160 36 = .ok (.athrow, 1) := by decide +kernel
theorem dJ7_checkLength_df160_37 : decode cJ7_checkLength_df160 37 = .ok (.return_, 1) := by decide +kernel
theorem dJ7_copyOfRange_39247_0 : decode cJ7_copyOfRange_39247 0 = .ok (.iload_n 1, 1) := by decide +kernel
theorem dJ7_copyOfRange_39247_1 : decode cJ7_copyOfRange_39247 1 = .ok (.ifCond .ne 9, 3) := by decide +kernel
theorem dJ7_copyOfRange_39247_4 : decode cJ7_copyOfRange_39247 4 = .ok (.iload_n 2, 1) := by decide +kernel
theorem dJ7_copyOfRange_39247_5 : decode cJ7_copyOfRange_39247 5 = .ok (.aload_n 0, 1) := by decide +kernel
theorem dJ7_copyOfRange_39247_6 : decode cJ7_copyOfRange_39247 6 = .ok (.arraylength, 1) := by decide +kernel
theorem dJ7_copyOfRange_39247_7 : decode cJ7_copyOfRange_39247 7 = .ok (.if_icmp .eq 10, 3) := by decide +kernel
theorem dJ7_copyOfRange_39247_10 : decode cJ7_copyOfRange_39247 10 = .ok (.aload_n 0, 1) := by decide +kernel
theorem dJ7_copyOfRange_39247_11 : decode cJ7_copyOfRange_39247 11 = .ok (.iload_n 1, 1) := by decide +kernel
theorem dJ7_copyOfRange_39247_12 : decode cJ7_copyOfRange_39247 12 = .ok (.iload_n 2, 1) := by decide +kernel
theorem dJ7_copyOfRange_39247_13 : decode cJ7_copyOfRange_39247 13 = .ok (.invokestatic 339, 3) := by decide +kernel
theorem dJ7_copyOfRange_39247_16 : decode cJ7_copyOfRange_39247 16 = .ok (.areturn, 1) := by decide +kernel
theorem dJ7_copyOfRange_39247_17 : decode cJ7_copyOfRange_39247 17 = .ok (.aload_n 0, 1) := by decide +kernel
theorem dJ7_copyOfRange_39247_18 : decode cJ7_copyOfRange_39247 18 = .ok (.invokevirtual 310, 3) := by decide +kernel
theorem dJ7_copyOfRange_39247_21 : decode cJ7_copyOfRange_39247 21 = .ok (.checkcast 311, 3) := by decide +kernel
theorem dJ7_copyOfRange_39247_24 : decode cJ7_copyOfRange_39247 24 = .ok (.areturn, 1) := by decide +kernel
theorem dJ7_copyOfRangeByte_39247_0 : decode cJ7_copyOfRangeByte_39247 0 = .ok (.iload_n 1, 1) := by decide +kernel
theorem dJ7_copyOfRangeByte_39247_1 : decode cJ7_copyOfRangeByte_39247 1 = .ok (.iload_n 2, 1) := by decide +kernel
theorem dJ7_copyOfRangeByte_39247_2 : decode cJ7_copyOfRangeByte_39247 2 = .ok (.invokestatic 343, 3) := by decide +kernel
theorem dJ7_copyOfRangeByte_39247_5 : decode cJ7_copyOfRangeByte_39247 5 = .ok (.iload_n 2, 1) := by decide +kernel
theorem dJ7_copyOfRangeByte_39247_6 : decode cJ7_copyOfRangeByte_39247 6 = .ok (.iload_n 1, 1) := by decide +kernel
theorem dJ7_copyOfRangeByte_39247_7 : decode cJ7_copyOfRangeByte_39247 7 = .ok (.isub, 1) := by decide +kernel
theorem dJ7_copyOfRangeByte_39247_8 : decode cJ7_copyOfRangeByte_39247 8 = .ok (.istore_n 3, 1) := by decide +kernel
theorem dJ7_copyOfRangeByte_39247_9 : decode cJ7_copyOfRangeByte_39247 9 = .ok (.iload_n 3, 1) := by decide +kernel
theorem dJ7_copyOfRangeByte_39247_10 : decode cJ7_copyOfRangeByte_39247 10 = .ok (.newarray .byte, 2) := by decide +kernel
theorem dJ7_copyOfRangeByte_39247_12 : decode cJ7_copyOfRangeByte_39247 12 = .ok (.astore 4, 2) := by decide +kernel
theorem dJ7_copyOfRangeByte_39247_14 : decode cJ7_copyOfRangeByte_39247 14 = .ok (.aload_n 0, 1) := by decide +kernel
theorem dJ7_copyOfRangeByte_39247_15 : decode cJ7_copyOfRangeByte_39247 15 = .ok (.iload_n 1, 1) := by decide +kernel
theorem dJ7_copyOfRangeByte_39247_16 : decode cJ7_copyOfRangeByte_39247 16 = .ok (.aload 4, 2) := by decide +kernel
theorem dJ7_copyOfRangeByte_39247_18 : decode cJ7_copyOfRangeByte_39247 18 = .ok (.iconst 0, 1) := by decide +kernel
theorem dJ7_copyOfRangeByte_39247_19 : decode cJ7_copyOfRangeByte_39247 19 = .ok (.aload_n 0, 1) := by decide +kernel
theorem dJ7_copyOfRangeByte_39247_20 : decode cJ7_copyOfRangeByte_39247 20 = .ok (.arraylength, 1) := by decide +kernel
theorem dJ7_copyOfRangeByte_39247_21 : decode cJ7_copyOfRangeByte_39247 21 = .ok (.iload_n 1, 1) := by decide +kernel
theorem dJ7_copyOfRangeByte_39247_22 : decode cJ7_copyOfRangeByte_39247 22 = .ok (.isub, 1) := by decide +kernel
theorem dJ7_copyOfRangeByte_39247_23 : decode cJ7_copyOfRangeByte_39247 23 = .ok (.iload_n 3, 1) := by decide +kernel
theorem dJ7_copyOfRangeByte_39247_24 : decode cJ7_copyOfRangeByte_39247 24 = .ok (.invokestatic 304, 3) := by decide +kernel
theorem dJ7_copyOfRangeByte_39247_27 : decode cJ7_copyOfRangeByte_39247 27 = .ok (.invokestatic 150, 3) := by decide +kernel
theorem dJ7_copyOfRangeByte_39247_30 : decode cJ7_copyOfRangeByte_39247 30 = .ok (.aload 4, 2) := by decide +kernel
theorem dJ7_copyOfRangeByte_39247_32 : decode cJ7_copyOfRangeByte_39247 32 = .ok (.areturn, 1) := by decide +kernel
theorem dJ15_checkIndex_7cf53_0 : decode cJ15_checkIndex_7cf53 0 = .ok (.iload_n 0, 1) := by decide +kernel
theorem dJ15_checkIndex_7cf53_1 : decode cJ15_checkIndex_7cf53 1 = .ok (.iload_n 1, 1) := by decide +kernel
theorem dJ15_checkIndex_7cf53_2 : decode cJ15_checkIndex_7cf53 2 = .ok (.aconst_null, 1) := by decide +kernel
theorem dJ15_checkIndex_7cf53_3 : decode cJ15_checkIndex_7cf53 3 = .ok (.invokestatic 105, 3) := by decide +kernel
theorem dJ15_checkIndex_7cf53_6 : decode cJ15_checkIndex_7cf53 6 = .ok (.ireturn, 1) := by decide +kernel
theorem dJ8_newLength_cabcc_0 : decode cJ8_newLength_cabcc 0 = .ok (.iload_n 0, 1) := by decide +kernel
theorem dJ8_newLength_cabcc_1 : decode cJ8_newLength_cabcc 1 = .ok (.iload_n 1, 1) := by decide +kernel
theorem dJ8_newLength_cabcc_2 : decode cJ8_newLength_cabcc 2 = .ok (.iload_n 2, 1) := by decide +kernel
theorem dJ8_newLength_cabcc_3 : decode cJ8_newLength_cabcc 3 = .ok (.invokestatic 194, 3) := by decide +kernel
theorem dJ8_newLength_cabcc_6 : decode cJ8_newLength_cabcc 6 = .ok (.iadd, 1) := by decide +kernel
theorem dJ8_newLength_cabcc_7 : decode cJ8_newLength_cabcc 7 = .ok (.istore_n 3, 1) := by decide +kernel
theorem dJ8_newLength_cabcc_8 : decode cJ8_newLength_cabcc 8 = .ok (.iconst 0, 1) := by decide +kernel
theorem dJ8_newLength_cabcc_9 : decode cJ8_newLength_cabcc 9 = .ok (.iload_n 3, 1) := by decide +kernel
theorem dJ8_newLength_cabcc_10 : decode cJ8_newLength_cabcc 10 = .ok (.if_icmp .ge 11, 3) := by decide +kernel
theorem dJ8_newLength_cabcc_13 : decode cJ8_newLength_cabcc 13 = .ok (.iload_n 3, 1) := by decide +kernel
theorem dJ8_newLength_cabcc_14 : decode cJ8_newLength_cabcc 14 = .ok (.ldc 200, 2) := by decide +kernel
theorem dJ8_newLength_cabcc_16 : decode cJ8_newLength_cabcc 16 = .ok (.if_icmp .gt 5, 3) := by decide +kernel
theorem dJ8_newLength_cabcc_19 : decode cJ8_newLength_cabcc 19 = .ok (.iload_n 3, 1) := by decide +kernel
theorem dJ8_newLength_cabcc_20 : decode cJ8_newLength_cabcc 20 = .ok (.ireturn, 1) := by decide +kernel
theorem dJ8_newLength_cabcc_21 : decode cJ8_newLength_cabcc 21 = .ok (.iload_n 0, 1) := by decide +kernel
theorem dJ8_newLength_cabcc_22 : decode cJ8_newLength_cabcc 22 = .ok (.iload_n 1, 1) := by decide +kernel
theorem dJ8_newLength_cabcc_23 : decode cJ8_newLength_cabcc 23 = .ok (.invokestatic 201, 3) := by decide +kernel
theorem dJ8_newLength_cabcc_26 : decode cJ8_newLength_cabcc 26 = .ok (.ireturn, 1) := by decide +kernel
theorem dJ8_hugeLength_7cf53_0 : decode cJ8_hugeLength_7cf53 0 = .ok (.iload_n 0, 1) := by decide +kernel
theorem dJ8_hugeLength_7cf53_1 : decode cJ8_hugeLength_7cf53 1 = .ok (.iload_n 1, 1) := by decide +kernel
theorem dJ8_hugeLength_7cf53_2 : decode cJ8_hugeLength_7cf53 2 = .ok (.iadd, 1) := by decide +kernel
theorem dJ8_hugeLength_7cf53_3 : decode cJ8_hugeLength_7cf53 3 = .ok (.istore_n 2, 1) := by decide +kernel
theorem dJ8_hugeLength_7cf53_4 : decode cJ8_hugeLength_7cf53 4 = .ok (.iload_n 2, 1) := by decide +kernel
theorem dJ8_hugeLength_7cf53_5 : decode cJ8_hugeLength_7cf53 5 = .ok (.ifCond .ge 44, 3) := by decide +kernel
theorem dJ8_hugeLength_7cf53_8 : decode cJ8_hugeLength_7cf53 8 = .ok (.new 204, 3) := by decide +kernel
theorem dJ8_hugeLength_7cf53_11 : decode cJ8_hugeLength_7cf53 11 = .ok (.dup, 1) := by decide +kernel
theorem dJ8_hugeLength_7cf53_12 : decode cJ8_hugeLength_7cf53 12 = .ok (.new 89, 3) := by decide +kernel
theorem dJ8_hugeLength_7cf53_15 : decode cJ8_hugeLength_7cf53 15 = .ok (.dup, 1) := by decide +kernel
theorem dJ8_hugeLength_7cf53_16 : decode cJ8_hugeLength_7cf53 16 = .ok (.invokespecial 91, 3) := by decide +kernel
theorem dJ8_hugeLength_7cf53_19 : decode cJ8_hugeLength_7cf53 19 = .ok (.ldc 206, 2) := by decide +kernel
theorem dJ8_hugeLength_7cf53_21 : decode cJ8_hugeLength_7cf53 21 = .ok (.invokevirtual 94, 3) := by decide +kernel
theorem dJ8_hugeLength_7cf53_24 : decode cJ8_hugeLength_7cf53 24 = .ok (.iload_n 0, 1) := by decide +kernel
theorem dJ8_hugeLength_7cf53_25 : decode cJ8_hugeLength_7cf53 25 = .ok (.invokevirtual 98, 3) := by decide +kernel
theorem dJ8_hugeLength_7cf53_28 : decode cJ8_hugeLength_7cf53 28 = .ok (.ldc 208, 2) := by decide +kernel
theorem dJ8_hugeLength_7cf53_30 : decode cJ8_hugeLength_7cf53 30 = .ok (.invokevirtual 94, 3) := by decide +kernel
theorem dJ8_hugeLength_7cf53_33 : decode cJ8_hugeLength_7cf53 33 = .ok (.iload_n 1, 1) := by decide +kernel
theorem dJ8_hugeLength_7cf53_34 : decode cJ8_hugeLength_7cf53 34 = .ok (.invokevirtual 98, 3) := by decide +kernel
theorem dJ8_hugeLength_7cf53_37 : decode cJ8_hugeLength_7cf53 37 = .ok (.ldc 210, 2) := by decide +kernel
theorem dJ8_hugeLength_7cf53_39 : decode cJ8_hugeLength_7cf53 39 = .ok (.invokevirtual 94, 3) := by decide +kernel
theorem dJ8_hugeLength_7cf53_42 : decode cJ8_hugeLength_7cf53 42 = .ok (.invokevirtual 101, 3) := by decide +kernel
theorem dJ8_hugeLength_7cf53_45 : decode cJ8_hugeLength_7cf53 45 = .ok (.invokespecial 212, 3) := by decide +kernel
theorem dJ8_hugeLength_7cf53_48 : decode cJ8_hugeLength_7cf53 48 = .ok (.athrow, 1) := by decide +kernel
theorem dJ8_hugeLength_7cf53_49 : decode cJ8_hugeLength_7cf53 49 = .ok (.iload_n 2, 1) := by decide +kernel
theorem dJ8_hugeLength_7cf53_50 : decode cJ8_hugeLength_7cf53 50 = .ok (.ldc 200, 2) := by decide +kernel
theorem dJ8_hugeLength_7cf53_52 : decode cJ8_hugeLength_7cf53 52 = .ok (.if_icmp .gt 6, 3) := by decide +kernel
theorem dJ8_hugeLength_7cf53_55 : decode cJ8_hugeLength_7cf53 55 = .ok (.ldc 200, 2) := by decide +kernel
theorem dJ8_hugeLength_7cf53_57 : decode cJ8_hugeLength_7cf53 57 = .ok (.ireturn, 1) := by decide +kernel
theorem dJ8_hugeLength_7cf53_58 : decode cJ8_hugeLength_7cf53 58 = .ok (.iload_n 2, 1) := by decide +kernel
theorem dJ8_hugeLength_7cf53_59 : decode cJ8_hugeLength_7cf53 59 = .ok (.ireturn, 1) := by decide +kernel
theorem dJ3_checkIndex_8e157_0 : decode cJ3_checkIndex_8e157 0 = .ok (.iload_n 0, 1) := by decide +kernel
theorem dJ3_checkIndex_8e157_1 : decode cJ3_checkIndex_8e157 1 = .ok (.ifCond .lt 8, 3) := by decide +kernel
theorem dJ3_checkIndex_8e157_4 : decode cJ3_checkIndex_8e157 4 = .ok (.iload_n 0, 1) := by decide +kernel
theorem dJ3_checkIndex_8e157_5 : decode cJ3_checkIndex_8e157 5 = .ok (.iload_n 1, 1) := by decide +kernel
theorem dJ3_checkIndex_8e157_6 : decode cJ3_checkIndex_8e157 6 = .ok (.if_icmp .lt 10, 3) := by decide +kernel
theorem dJ3_checkIndex_8e157_9 : decode cJ3_checkIndex_8e157 9 = .ok (.aload_n 2, 1) := by decide +kernel
theorem dJ3_checkIndex_8e157_10 : decode cJ3_checkIndex_8e157 10 = .ok (.iload_n 0, 1) := by decide +kernel
theorem dJ3_checkIndex_8e157_11 : decode cJ3_checkIndex_8e157 11 = .ok (.iload_n 1, 1) := by decide +kernel
theorem dJ3_checkIndex_8e157_12 : decode cJ3_checkIndex_8e157 12 = .ok (.invokestatic 95, 3) := by decide +kernel
theorem dJ3_checkIndex_8e157_15 : decode cJ3_checkIndex_8e157 15 = .ok (.athrow, 1) := by decide +kernel
theorem dJ3_checkIndex_8e157_16 : decode cJ3_checkIndex_8e157 16 = .ok (.iload_n 0, 1) := by decide +kernel
theorem dJ3_checkIndex_8e157_17 : decode cJ3_checkIndex_8e157 17 = .ok (.ireturn, 1) := by decide +kernel
theorem dJ3_checkFromToIndex_8c36e_0 : decode cJ3_checkFromToIndex_8c36e 0 = .ok (.iload_n 0, 1) := by decide +kernel
theorem dJ3_checkFromToIndex_8c36e_1 : decode cJ3_checkFromToIndex_8c36e 1 = .ok (.ifCond .lt 13, 3) := by decide +kernel
theorem dJ3_checkFromToIndex_8c36e_4 : decode cJ3_checkFromToIndex_8c36e 4 = .ok (.iload_n 0, 1) := by decide +kernel
theorem dJ3_checkFromToIndex_8c36e_5 : decode cJ3_checkFromToIndex_8c36e 5 = .ok (.iload_n 1, 1) := by decide +kernel
theorem dJ3_checkFromToIndex_8c36e_6 : decode cJ3_checkFromToIndex_8c36e 6 = .ok (.if_icmp .gt 8, 3) := by decide +kernel
theorem dJ3_checkFromToIndex_8c36e_9 : decode cJ3_checkFromToIndex_8c36e 9 = .ok (.iload_n 1, 1) := by decide +kernel
theorem dJ3_checkFromToIndex_8c36e_10 : decode cJ3_checkFromToIndex_8c36e 10 = .ok (.iload_n 2, 1) := by decide +kernel
theorem dJ3_checkFromToIndex_8c36e_11 : decode cJ3_checkFromToIndex_8c36e 11 = .ok (.if_icmp .le 11, 3) := by decide +kernel
theorem dJ3_checkFromToIndex_8c36e_14 : decode cJ3_checkFromToIndex_8c36e 14 = .ok (.aload_n 3, 1) := by decide +kernel
theorem dJ3_checkFromToIndex_8c36e_15 : decode cJ3_checkFromToIndex_8c36e 15 = .ok (.iload_n 0, 1) := by decide +kernel
theorem dJ3_checkFromToIndex_8c36e_16 : decode cJ3_checkFromToIndex_8c36e 16 = .ok (.iload_n 1, 1) := by decide +kernel
theorem dJ3_checkFromToIndex_8c36e_17 : decode cJ3_checkFromToIndex_8c36e 17 = .ok (.iload_n 2, 1) := by decide +kernel
theorem dJ3_checkFromToIndex_8c36e_18 : decode cJ3_checkFromToIndex_8c36e 18 = .ok (.invokestatic 99, 3) := by decide +kernel
theorem dJ3_checkFromToIndex_8c36e_21 : decode cJ3_checkFromToIndex_8c36e 21 = .ok (.athrow, 1) := by decide +kernel
theorem dJ3_checkFromToIndex_8c36e_22 : decode cJ3_checkFromToIndex_8c36e 22 = .ok (.iload_n 0, 1) := by decide +kernel
theorem dJ3_checkFromToIndex_8c36e_23 : decode cJ3_checkFromToIndex_8c36e 23 = .ok (.ireturn, 1) := by decide +kernel
theorem dJ3_checkFromIndexSize_8c36e_0 : decode cJ3_checkFromIndexSize_8c36e 0 = .ok (.iload_n 2, 1) := by decide +kernel
theorem dJ3_checkFromIndexSize_8c36e_1 : decode cJ3_checkFromIndexSize_8c36e 1 = .ok (.iload_n 0, 1) := by decide +kernel
theorem dJ3_checkFromIndexSize_8c36e_2 : decode cJ3_checkFromIndexSize_8c36e 2 = .ok (.ior, 1) := by decide +kernel
theorem dJ3_checkFromIndexSize_8c36e_3 : decode cJ3_checkFromIndexSize_8c36e 3 = .ok (.iload_n 1, 1) := by decide +kernel
theorem dJ3_checkFromIndexSize_8c36e_4 : decode cJ3_checkFromIndexSize_8c36e 4 = .ok (.ior, 1) := by decide +kernel
theorem dJ3_checkFromIndexSize_8c36e_5 : decode cJ3_checkFromIndexSize_8c36e 5 = .ok (.ifCond .lt 10, 3) := by decide +kernel
theorem dJ3_checkFromIndexSize_8c36e_8 : decode cJ3_checkFromIndexSize_8c36e 8 = .ok (.iload_n 1, 1) := by decide +kernel
theorem dJ3_checkFromIndexSize_8c36e_9 : decode cJ3_checkFromIndexSize_8c36e 9 = .ok (.iload_n 2, 1) := by decide +kernel
theorem dJ3_checkFromIndexSize_8c36e_10 : decode cJ3_checkFromIndexSize_8c36e 10 = .ok (.iload_n 0, 1) := by decide +kernel
theorem dJ3_checkFromIndexSize_8c36e_11 : decode cJ3_checkFromIndexSize_8c36e 11 = .ok (.isub, 1) := by decide +kernel
theorem dJ3_checkFromIndexSize_8c36e_12 : decode cJ3_checkFromIndexSize_8c36e 12 = .ok (.if_icmp .le 11, 3) := by decide +kernel
theorem dJ3_checkFromIndexSize_8c36e_15 : decode cJ3_checkFromIndexSize_8c36e 15 = .ok (.aload_n 3, 1) := by decide +kernel
theorem dJ3_checkFromIndexSize_8c36e_16 : decode cJ3_checkFromIndexSize_8c36e 16 = .ok (.iload_n 0, 1) := by decide +kernel
theorem dJ3_checkFromIndexSize_8c36e_17 : decode cJ3_checkFromIndexSize_8c36e 17 = .ok (.iload_n 1, 1) := by decide +kernel
theorem dJ3_checkFromIndexSize_8c36e_18 : decode cJ3_checkFromIndexSize_8c36e 18 = .ok (.iload_n 2, 1) := by decide +kernel
theorem dJ3_checkFromIndexSize_8c36e_19 : decode cJ3_checkFromIndexSize_8c36e 19 = .ok (.invokestatic 103, 3) := by decide +kernel
theorem dJ3_checkFromIndexSize_8c36e_22 : decode cJ3_checkFromIndexSize_8c36e 22 = .ok (.athrow, 1) := by decide +kernel
theorem dJ3_checkFromIndexSize_8c36e_23 : decode cJ3_checkFromIndexSize_8c36e 23 = .ok (.iload_n 0, 1) := by decide +kernel
theorem dJ3_checkFromIndexSize_8c36e_24 : decode cJ3_checkFromIndexSize_8c36e 24 = .ok (.ireturn, 1) := by decide +kernel
theorem dL_node_0 : decode cL_node 0 = .ok (.aload 5, 2) := by decide +kernel
theorem dL_node_2 : decode cL_node 2 = .ok (.aload_n 0, 1) := by decide +kernel
theorem dL_node_3 : decode cL_node 3 = .ok (.iload_n 1, 1) := by decide +kernel
theorem dL_node_4 : decode cL_node 4 = .ok (.iload_n 2, 1) := by decide +kernel
theorem dL_node_5 : decode cL_node 5 = .ok (.iload_n 3, 1) := by decide +kernel
theorem dL_node_6 : decode cL_node 6 = .ok (.iload 4, 2) := by decide +kernel
theorem dL_node_8 : decode cL_node 8 = .ok (.invokevirtual 7, 3) := by decide +kernel
theorem dL_node_11 : decode cL_node 11 = .ok (.i2l, 1) := by decide +kernel
theorem dL_node_12 : decode cL_node 12 = .ok (.putfield 13, 3) := by decide +kernel
theorem dL_node_15 : decode cL_node 15 = .ok (.goto 11, 3) := by decide +kernel
theorem dL_node_18 : decode cL_node 18 = .ok (.astore 6, 2) := by decide +kernel
theorem dL_node_20 : decode cL_node 20 = .ok (.iconst 1, 1) := by decide +kernel
theorem dL_node_21 : decode cL_node 21 = .ok (.ireturn, 1) := by decide +kernel
theorem dL_node_22 : decode cL_node 22 = .ok (.astore 6, 2) := by decide +kernel
theorem dL_node_24 : decode cL_node 24 = .ok (.iconst 2, 1) := by decide +kernel
theorem dL_node_25 : decode cL_node 25 = .ok (.ireturn, 1) := by decide +kernel
theorem dL_node_26 : decode cL_node 26 = .ok (.iconst 0, 1) := by decide +kernel
theorem dL_node_27 : decode cL_node 27 = .ok (.ireturn, 1) := by decide +kernel
theorem dL_move_0 : decode cL_move 0 = .ok (.aload 4, 2) := by decide +kernel
theorem dL_move_2 : decode cL_move 2 = .ok (.aload_n 0, 1) := by decide +kernel
theorem dL_move_3 : decode cL_move 3 = .ok (.iload_n 1, 1) := by decide +kernel
theorem dL_move_4 : decode cL_move 4 = .ok (.iload_n 2, 1) := by decide +kernel
theorem dL_move_5 : decode cL_move 5 = .ok (.iload_n 3, 1) := by decide +kernel
theorem dL_move_6 : decode cL_move 6 = .ok (.invokevirtual 23, 3) := by decide +kernel
theorem dL_move_9 : decode cL_move 9 = .ok (.i2l, 1) := by decide +kernel
theorem dL_move_10 : decode cL_move 10 = .ok (.putfield 13, 3) := by decide +kernel
theorem dL_move_13 : decode cL_move 13 = .ok (.goto 15, 3) := by decide +kernel
theorem dL_move_16 : decode cL_move 16 = .ok (.astore 5, 2) := by decide +kernel
theorem dL_move_18 : decode cL_move 18 = .ok (.iconst 1, 1) := by decide +kernel
theorem dL_move_19 : decode cL_move 19 = .ok (.ireturn, 1) := by decide +kernel
theorem dL_move_20 : decode cL_move 20 = .ok (.astore 5, 2) := by decide +kernel
theorem dL_move_22 : decode cL_move 22 = .ok (.iconst 2, 1) := by decide +kernel
theorem dL_move_23 : decode cL_move 23 = .ok (.ireturn, 1) := by decide +kernel
theorem dL_move_24 : decode cL_move 24 = .ok (.astore 5, 2) := by decide +kernel
theorem dL_move_26 : decode cL_move 26 = .ok (.iconst 3, 1) := by decide +kernel
theorem dL_move_27 : decode cL_move 27 = .ok (.ireturn, 1) := by decide +kernel
theorem dL_move_28 : decode cL_move 28 = .ok (.iconst 0, 1) := by decide +kernel
theorem dL_move_29 : decode cL_move 29 = .ok (.ireturn, 1) := by decide +kernel
theorem dL_tune_0 : decode cL_tune 0 = .ok (.aload 4, 2) := by decide +kernel
theorem dL_tune_2 : decode cL_tune 2 = .ok (.aload_n 0, 1) := by decide +kernel
theorem dL_tune_3 : decode cL_tune 3 = .ok (.iload_n 1, 1) := by decide +kernel
theorem dL_tune_4 : decode cL_tune 4 = .ok (.iload_n 2, 1) := by decide +kernel
theorem dL_tune_5 : decode cL_tune 5 = .ok (.iload_n 3, 1) := by decide +kernel
theorem dL_tune_6 : decode cL_tune 6 = .ok (.invokevirtual 29, 3) := by decide +kernel
theorem dL_tune_9 : decode cL_tune 9 = .ok (.i2l, 1) := by decide +kernel
theorem dL_tune_10 : decode cL_tune 10 = .ok (.putfield 13, 3) := by decide +kernel
theorem dL_tune_13 : decode cL_tune 13 = .ok (.goto 15, 3) := by decide +kernel
theorem dL_tune_16 : decode cL_tune 16 = .ok (.astore 5, 2) := by decide +kernel
theorem dL_tune_18 : decode cL_tune 18 = .ok (.iconst 1, 1) := by decide +kernel
theorem dL_tune_19 : decode cL_tune 19 = .ok (.ireturn, 1) := by decide +kernel
theorem dL_tune_20 : decode cL_tune 20 = .ok (.astore 5, 2) := by decide +kernel
theorem dL_tune_22 : decode cL_tune 22 = .ok (.iconst 2, 1) := by decide +kernel
theorem dL_tune_23 : decode cL_tune 23 = .ok (.ireturn, 1) := by decide +kernel
theorem dL_tune_24 : decode cL_tune 24 = .ok (.astore 5, 2) := by decide +kernel
theorem dL_tune_26 : decode cL_tune 26 = .ok (.iconst 3, 1) := by decide +kernel
theorem dL_tune_27 : decode cL_tune 27 = .ok (.ireturn, 1) := by decide +kernel
theorem dL_tune_28 : decode cL_tune 28 = .ok (.iconst 0, 1) := by decide +kernel
theorem dL_tune_29 : decode cL_tune 29 = .ok (.ireturn, 1) := by decide +kernel
theorem dL_send_0 : decode cL_send 0 = .ok (.aload 4, 2) := by decide +kernel
theorem dL_send_2 : decode cL_send 2 = .ok (.aload_n 0, 1) := by decide +kernel
theorem dL_send_3 : decode cL_send 3 = .ok (.iload_n 1, 1) := by decide +kernel
theorem dL_send_4 : decode cL_send 4 = .ok (.iload_n 2, 1) := by decide +kernel
theorem dL_send_5 : decode cL_send 5 = .ok (.iload_n 3, 1) := by decide +kernel
theorem dL_send_6 : decode cL_send 6 = .ok (.invokevirtual 33, 3) := by decide +kernel
theorem dL_send_9 : decode cL_send 9 = .ok (.i2l, 1) := by decide +kernel
theorem dL_send_10 : decode cL_send 10 = .ok (.putfield 13, 3) := by decide +kernel
theorem dL_send_13 : decode cL_send 13 = .ok (.goto 15, 3) := by decide +kernel
theorem dL_send_16 : decode cL_send 16 = .ok (.astore 5, 2) := by decide +kernel
theorem dL_send_18 : decode cL_send 18 = .ok (.iconst 1, 1) := by decide +kernel
theorem dL_send_19 : decode cL_send 19 = .ok (.ireturn, 1) := by decide +kernel
theorem dL_send_20 : decode cL_send 20 = .ok (.astore 5, 2) := by decide +kernel
theorem dL_send_22 : decode cL_send 22 = .ok (.iconst 2, 1) := by decide +kernel
theorem dL_send_23 : decode cL_send 23 = .ok (.ireturn, 1) := by decide +kernel
theorem dL_send_24 : decode cL_send 24 = .ok (.astore 5, 2) := by decide +kernel
theorem dL_send_26 : decode cL_send 26 = .ok (.iconst 3, 1) := by decide +kernel
theorem dL_send_27 : decode cL_send 27 = .ok (.ireturn, 1) := by decide +kernel
theorem dL_send_28 : decode cL_send 28 = .ok (.iconst 0, 1) := by decide +kernel
theorem dL_send_29 : decode cL_send 29 = .ok (.ireturn, 1) := by decide +kernel
theorem dL_pass_0 : decode cL_pass 0 = .ok (.aload_n 2, 1) := by decide +kernel
theorem dL_pass_1 : decode cL_pass 1 = .ok (.aload_n 0, 1) := by decide +kernel
theorem dL_pass_2 : decode cL_pass 2 = .ok (.iload_n 1, 1) := by decide +kernel
theorem dL_pass_3 : decode cL_pass 3 = .ok (.invokevirtual 36, 3) := by decide +kernel
theorem dL_pass_6 : decode cL_pass 6 = .ok (.i2l, 1) := by decide +kernel
theorem dL_pass_7 : decode cL_pass 7 = .ok (.putfield 13, 3) := by decide +kernel
theorem dL_pass_10 : decode cL_pass 10 = .ok (.goto 9, 3) := by decide +kernel
theorem dL_pass_13 : decode cL_pass 13 = .ok (.astore_n 3, 1) := by decide +kernel
theorem dL_pass_14 : decode cL_pass 14 = .ok (.iconst 1, 1) := by decide +kernel
theorem dL_pass_15 : decode cL_pass 15 = .ok (.ireturn, 1) := by decide +kernel
theorem dL_pass_16 : decode cL_pass 16 = .ok (.astore_n 3, 1) := by decide +kernel
theorem dL_pass_17 : decode cL_pass 17 = .ok (.iconst 2, 1) := by decide +kernel
theorem dL_pass_18 : decode cL_pass 18 = .ok (.ireturn, 1) := by decide +kernel
theorem dL_pass_19 : decode cL_pass 19 = .ok (.iconst 0, 1) := by decide +kernel
theorem dL_pass_20 : decode cL_pass 20 = .ok (.ireturn, 1) := by decide +kernel
theorem dL_exchange_0 : decode cL_exchange 0 = .ok (.aload_n 2, 1) := by decide +kernel
theorem dL_exchange_1 : decode cL_exchange 1 = .ok (.aload_n 0, 1) := by decide +kernel
theorem dL_exchange_2 : decode cL_exchange 2 = .ok (.iload_n 1, 1) := by decide +kernel
theorem dL_exchange_3 : decode cL_exchange 3 = .ok (.invokevirtual 40, 3) := by decide +kernel
theorem dL_exchange_6 : decode cL_exchange 6 = .ok (.i2l, 1) := by decide +kernel
theorem dL_exchange_7 : decode cL_exchange 7 = .ok (.putfield 13, 3) := by decide +kernel
theorem dL_exchange_10 : decode cL_exchange 10 = .ok (.goto 6, 3) := by decide +kernel
theorem dL_exchange_13 : decode cL_exchange 13 = .ok (.astore_n 3, 1) := by decide +kernel
theorem dL_exchange_14 : decode cL_exchange 14 = .ok (.iconst 1, 1) := by decide +kernel
theorem dL_exchange_15 : decode cL_exchange 15 = .ok (.ireturn, 1) := by decide +kernel
theorem dL_exchange_16 : decode cL_exchange 16 = .ok (.iconst 0, 1) := by decide +kernel
theorem dL_exchange_17 : decode cL_exchange 17 = .ok (.ireturn, 1) := by decide +kernel
theorem dL_bid_0 : decode cL_bid 0 = .ok (.aload 4, 2) := by decide +kernel
theorem dL_bid_2 : decode cL_bid 2 = .ok (.aload_n 0, 1) := by decide +kernel
theorem dL_bid_3 : decode cL_bid 3 = .ok (.iload_n 1, 1) := by decide +kernel
theorem dL_bid_4 : decode cL_bid 4 = .ok (.iload_n 2, 1) := by decide +kernel
theorem dL_bid_5 : decode cL_bid 5 = .ok (.iload_n 3, 1) := by decide +kernel
theorem dL_bid_6 : decode cL_bid 6 = .ok (.invokevirtual 43, 3) := by decide +kernel
theorem dL_bid_9 : decode cL_bid 9 = .ok (.i2l, 1) := by decide +kernel
theorem dL_bid_10 : decode cL_bid 10 = .ok (.putfield 13, 3) := by decide +kernel
theorem dL_bid_13 : decode cL_bid 13 = .ok (.goto 11, 3) := by decide +kernel
theorem dL_bid_16 : decode cL_bid 16 = .ok (.astore 5, 2) := by decide +kernel
theorem dL_bid_18 : decode cL_bid 18 = .ok (.iconst 1, 1) := by decide +kernel
theorem dL_bid_19 : decode cL_bid 19 = .ok (.ireturn, 1) := by decide +kernel
theorem dL_bid_20 : decode cL_bid 20 = .ok (.astore 5, 2) := by decide +kernel
theorem dL_bid_22 : decode cL_bid 22 = .ok (.iconst 2, 1) := by decide +kernel
theorem dL_bid_23 : decode cL_bid 23 = .ok (.ireturn, 1) := by decide +kernel
theorem dL_bid_24 : decode cL_bid 24 = .ok (.iconst 0, 1) := by decide +kernel
theorem dL_bid_25 : decode cL_bid 25 = .ok (.ireturn, 1) := by decide +kernel
theorem dL_hears_0 : decode cL_hears 0 = .ok (.aload_n 3, 1) := by decide +kernel
theorem dL_hears_1 : decode cL_hears 1 = .ok (.aload_n 0, 1) := by decide +kernel
theorem dL_hears_2 : decode cL_hears 2 = .ok (.iload_n 1, 1) := by decide +kernel
theorem dL_hears_3 : decode cL_hears 3 = .ok (.iload_n 2, 1) := by decide +kernel
theorem dL_hears_4 : decode cL_hears 4 = .ok (.invokevirtual 46, 3) := by decide +kernel
theorem dL_hears_7 : decode cL_hears 7 = .ok (.ifCond .eq 7, 3) := by decide +kernel
theorem dL_hears_10 : decode cL_hears 10 = .ok (.lconst 1, 1) := by decide +kernel
theorem dL_hears_11 : decode cL_hears 11 = .ok (.goto 4, 3) := by decide +kernel
theorem dL_hears_14 : decode cL_hears 14 = .ok (.lconst 0, 1) := by decide +kernel
theorem dL_hears_15 : decode cL_hears 15 = .ok (.putfield 13, 3) := by decide +kernel
theorem dL_hears_18 : decode cL_hears 18 = .ok (.goto 11, 3) := by decide +kernel
theorem dL_hears_21 : decode cL_hears 21 = .ok (.astore 4, 2) := by decide +kernel
theorem dL_hears_23 : decode cL_hears 23 = .ok (.iconst 1, 1) := by decide +kernel
theorem dL_hears_24 : decode cL_hears 24 = .ok (.ireturn, 1) := by decide +kernel
theorem dL_hears_25 : decode cL_hears 25 = .ok (.astore 4, 2) := by decide +kernel
theorem dL_hears_27 : decode cL_hears 27 = .ok (.iconst 2, 1) := by decide +kernel
theorem dL_hears_28 : decode cL_hears 28 = .ok (.ireturn, 1) := by decide +kernel
theorem dL_hears_29 : decode cL_hears 29 = .ok (.iconst 0, 1) := by decide +kernel
theorem dL_hears_30 : decode cL_hears 30 = .ok (.ireturn, 1) := by decide +kernel
theorem dL_ofNode_0 : decode cL_ofNode 0 = .ok (.aload_n 3, 1) := by decide +kernel
theorem dL_ofNode_1 : decode cL_ofNode 1 = .ok (.aload_n 0, 1) := by decide +kernel
theorem dL_ofNode_2 : decode cL_ofNode 2 = .ok (.iload_n 1, 1) := by decide +kernel
theorem dL_ofNode_3 : decode cL_ofNode 3 = .ok (.iload_n 2, 1) := by decide +kernel
theorem dL_ofNode_4 : decode cL_ofNode 4 = .ok (.invokevirtual 50, 3) := by decide +kernel
theorem dL_ofNode_7 : decode cL_ofNode 7 = .ok (.i2l, 1) := by decide +kernel
theorem dL_ofNode_8 : decode cL_ofNode 8 = .ok (.putfield 13, 3) := by decide +kernel
theorem dL_ofNode_11 : decode cL_ofNode 11 = .ok (.goto 11, 3) := by decide +kernel
theorem dL_ofNode_14 : decode cL_ofNode 14 = .ok (.astore 4, 2) := by decide +kernel
theorem dL_ofNode_16 : decode cL_ofNode 16 = .ok (.iconst 1, 1) := by decide +kernel
theorem dL_ofNode_17 : decode cL_ofNode 17 = .ok (.ireturn, 1) := by decide +kernel
theorem dL_ofNode_18 : decode cL_ofNode 18 = .ok (.astore 4, 2) := by decide +kernel
theorem dL_ofNode_20 : decode cL_ofNode 20 = .ok (.iconst 2, 1) := by decide +kernel
theorem dL_ofNode_21 : decode cL_ofNode 21 = .ok (.ireturn, 1) := by decide +kernel
theorem dL_ofNode_22 : decode cL_ofNode 22 = .ok (.iconst 0, 1) := by decide +kernel
theorem dL_ofNode_23 : decode cL_ofNode 23 = .ok (.ireturn, 1) := by decide +kernel
theorem dL_inQueue_0 : decode cL_inQueue 0 = .ok (.aload 4, 2) := by decide +kernel
theorem dL_inQueue_2 : decode cL_inQueue 2 = .ok (.aload_n 0, 1) := by decide +kernel
theorem dL_inQueue_3 : decode cL_inQueue 3 = .ok (.iload_n 1, 1) := by decide +kernel
theorem dL_inQueue_4 : decode cL_inQueue 4 = .ok (.iload_n 2, 1) := by decide +kernel
theorem dL_inQueue_5 : decode cL_inQueue 5 = .ok (.iload_n 3, 1) := by decide +kernel
theorem dL_inQueue_6 : decode cL_inQueue 6 = .ok (.invokevirtual 54, 3) := by decide +kernel
theorem dL_inQueue_9 : decode cL_inQueue 9 = .ok (.i2l, 1) := by decide +kernel
theorem dL_inQueue_10 : decode cL_inQueue 10 = .ok (.putfield 13, 3) := by decide +kernel
theorem dL_inQueue_13 : decode cL_inQueue 13 = .ok (.goto 11, 3) := by decide +kernel
theorem dL_inQueue_16 : decode cL_inQueue 16 = .ok (.astore 5, 2) := by decide +kernel
theorem dL_inQueue_18 : decode cL_inQueue 18 = .ok (.iconst 1, 1) := by decide +kernel
theorem dL_inQueue_19 : decode cL_inQueue 19 = .ok (.ireturn, 1) := by decide +kernel
theorem dL_inQueue_20 : decode cL_inQueue 20 = .ok (.astore 5, 2) := by decide +kernel
theorem dL_inQueue_22 : decode cL_inQueue 22 = .ok (.iconst 2, 1) := by decide +kernel
theorem dL_inQueue_23 : decode cL_inQueue 23 = .ok (.ireturn, 1) := by decide +kernel
theorem dL_inQueue_24 : decode cL_inQueue 24 = .ok (.iconst 0, 1) := by decide +kernel
theorem dL_inQueue_25 : decode cL_inQueue 25 = .ok (.ireturn, 1) := by decide +kernel
theorem dL_route_0 : decode cL_route 0 = .ok (.aload 4, 2) := by decide +kernel
theorem dL_route_2 : decode cL_route 2 = .ok (.aload_n 0, 1) := by decide +kernel
theorem dL_route_3 : decode cL_route 3 = .ok (.iload_n 1, 1) := by decide +kernel
theorem dL_route_4 : decode cL_route 4 = .ok (.iload_n 2, 1) := by decide +kernel
theorem dL_route_5 : decode cL_route 5 = .ok (.iload_n 3, 1) := by decide +kernel
theorem dL_route_6 : decode cL_route 6 = .ok (.invokevirtual 57, 3) := by decide +kernel
theorem dL_route_9 : decode cL_route 9 = .ok (.i2l, 1) := by decide +kernel
theorem dL_route_10 : decode cL_route 10 = .ok (.putfield 13, 3) := by decide +kernel
theorem dL_route_13 : decode cL_route 13 = .ok (.goto 11, 3) := by decide +kernel
theorem dL_route_16 : decode cL_route 16 = .ok (.astore 5, 2) := by decide +kernel
theorem dL_route_18 : decode cL_route 18 = .ok (.iconst 1, 1) := by decide +kernel
theorem dL_route_19 : decode cL_route 19 = .ok (.ireturn, 1) := by decide +kernel
theorem dL_route_20 : decode cL_route 20 = .ok (.astore 5, 2) := by decide +kernel
theorem dL_route_22 : decode cL_route 22 = .ok (.iconst 2, 1) := by decide +kernel
theorem dL_route_23 : decode cL_route 23 = .ok (.ireturn, 1) := by decide +kernel
theorem dL_route_24 : decode cL_route 24 = .ok (.iconst 0, 1) := by decide +kernel
theorem dL_route_25 : decode cL_route 25 = .ok (.ireturn, 1) := by decide +kernel
theorem dL_air_0 : decode cL_air 0 = .ok (.aload_n 2, 1) := by decide +kernel
theorem dL_air_1 : decode cL_air 1 = .ok (.aload_n 0, 1) := by decide +kernel
theorem dL_air_2 : decode cL_air 2 = .ok (.iload_n 1, 1) := by decide +kernel
theorem dL_air_3 : decode cL_air 3 = .ok (.invokevirtual 60, 3) := by decide +kernel
theorem dL_air_6 : decode cL_air 6 = .ok (.i2l, 1) := by decide +kernel
theorem dL_air_7 : decode cL_air 7 = .ok (.putfield 13, 3) := by decide +kernel
theorem dL_air_10 : decode cL_air 10 = .ok (.goto 6, 3) := by decide +kernel
theorem dL_air_13 : decode cL_air 13 = .ok (.astore_n 3, 1) := by decide +kernel
theorem dL_air_14 : decode cL_air 14 = .ok (.iconst 1, 1) := by decide +kernel
theorem dL_air_15 : decode cL_air 15 = .ok (.ireturn, 1) := by decide +kernel
theorem dL_air_16 : decode cL_air 16 = .ok (.iconst 0, 1) := by decide +kernel
theorem dL_air_17 : decode cL_air 17 = .ok (.ireturn, 1) := by decide +kernel
theorem dL_delivered_0 : decode cL_delivered 0 = .ok (.aload_n 3, 1) := by decide +kernel
theorem dL_delivered_1 : decode cL_delivered 1 = .ok (.aload_n 0, 1) := by decide +kernel
theorem dL_delivered_2 : decode cL_delivered 2 = .ok (.iload_n 1, 1) := by decide +kernel
theorem dL_delivered_3 : decode cL_delivered 3 = .ok (.iload_n 2, 1) := by decide +kernel
theorem dL_delivered_4 : decode cL_delivered 4 = .ok (.invokevirtual 63, 3) := by decide +kernel
theorem dL_delivered_7 : decode cL_delivered 7 = .ok (.ifCond .eq 7, 3) := by decide +kernel
theorem dL_delivered_10 : decode cL_delivered 10 = .ok (.lconst 1, 1) := by decide +kernel
theorem dL_delivered_11 : decode cL_delivered 11 = .ok (.goto 4, 3) := by decide +kernel
theorem dL_delivered_14 : decode cL_delivered 14 = .ok (.lconst 0, 1) := by decide +kernel
theorem dL_delivered_15 : decode cL_delivered 15 = .ok (.putfield 13, 3) := by decide +kernel
theorem dL_delivered_18 : decode cL_delivered 18 = .ok (.goto 7, 3) := by decide +kernel
theorem dL_delivered_21 : decode cL_delivered 21 = .ok (.astore 4, 2) := by decide +kernel
theorem dL_delivered_23 : decode cL_delivered 23 = .ok (.iconst 1, 1) := by decide +kernel
theorem dL_delivered_24 : decode cL_delivered 24 = .ok (.ireturn, 1) := by decide +kernel
theorem dL_delivered_25 : decode cL_delivered 25 = .ok (.iconst 0, 1) := by decide +kernel
theorem dL_delivered_26 : decode cL_delivered 26 = .ok (.ireturn, 1) := by decide +kernel
theorem dL_would_0 : decode cL_would 0 = .ok (.aload_n 3, 1) := by decide +kernel
theorem dL_would_1 : decode cL_would 1 = .ok (.aload_n 0, 1) := by decide +kernel
theorem dL_would_2 : decode cL_would 2 = .ok (.iload_n 1, 1) := by decide +kernel
theorem dL_would_3 : decode cL_would 3 = .ok (.iload_n 2, 1) := by decide +kernel
theorem dL_would_4 : decode cL_would 4 = .ok (.invokevirtual 66, 3) := by decide +kernel
theorem dL_would_7 : decode cL_would 7 = .ok (.i2l, 1) := by decide +kernel
theorem dL_would_8 : decode cL_would 8 = .ok (.putfield 13, 3) := by decide +kernel
theorem dL_would_11 : decode cL_would 11 = .ok (.goto 11, 3) := by decide +kernel
theorem dL_would_14 : decode cL_would 14 = .ok (.astore 4, 2) := by decide +kernel
theorem dL_would_16 : decode cL_would 16 = .ok (.iconst 1, 1) := by decide +kernel
theorem dL_would_17 : decode cL_would 17 = .ok (.ireturn, 1) := by decide +kernel
theorem dL_would_18 : decode cL_would 18 = .ok (.astore 4, 2) := by decide +kernel
theorem dL_would_20 : decode cL_would 20 = .ok (.iconst 2, 1) := by decide +kernel
theorem dL_would_21 : decode cL_would 21 = .ok (.ireturn, 1) := by decide +kernel
theorem dL_would_22 : decode cL_would 22 = .ok (.iconst 0, 1) := by decide +kernel
theorem dL_would_23 : decode cL_would 23 = .ok (.ireturn, 1) := by decide +kernel
theorem dL_throughput_0 : decode cL_throughput 0 = .ok (.aload_n 3, 1) := by decide +kernel
theorem dL_throughput_1 : decode cL_throughput 1 = .ok (.aload_n 0, 1) := by decide +kernel
theorem dL_throughput_2 : decode cL_throughput 2 = .ok (.iload_n 1, 1) := by decide +kernel
theorem dL_throughput_3 : decode cL_throughput 3 = .ok (.iload_n 2, 1) := by decide +kernel
theorem dL_throughput_4 : decode cL_throughput 4 = .ok (.invokevirtual 69, 3) := by decide +kernel
theorem dL_throughput_7 : decode cL_throughput 7 = .ok (.putfield 73, 3) := by decide +kernel
theorem dL_throughput_10 : decode cL_throughput 10 = .ok (.goto 7, 3) := by decide +kernel
theorem dL_throughput_13 : decode cL_throughput 13 = .ok (.astore 4, 2) := by decide +kernel
theorem dL_throughput_15 : decode cL_throughput 15 = .ok (.iconst 1, 1) := by decide +kernel
theorem dL_throughput_16 : decode cL_throughput 16 = .ok (.ireturn, 1) := by decide +kernel
theorem dL_throughput_17 : decode cL_throughput 17 = .ok (.iconst 0, 1) := by decide +kernel
theorem dL_throughput_18 : decode cL_throughput 18 = .ok (.ireturn, 1) := by decide +kernel
theorem dL_bestChance_0 : decode cL_bestChance 0 = .ok (.aload_n 2, 1) := by decide +kernel
theorem dL_bestChance_1 : decode cL_bestChance 1 = .ok (.aload_n 0, 1) := by decide +kernel
theorem dL_bestChance_2 : decode cL_bestChance 2 = .ok (.iload_n 1, 1) := by decide +kernel
theorem dL_bestChance_3 : decode cL_bestChance 3 = .ok (.invokevirtual 77, 3) := by decide +kernel
theorem dL_bestChance_6 : decode cL_bestChance 6 = .ok (.i2l, 1) := by decide +kernel
theorem dL_bestChance_7 : decode cL_bestChance 7 = .ok (.putfield 13, 3) := by decide +kernel
theorem dL_bestChance_10 : decode cL_bestChance 10 = .ok (.goto 6, 3) := by decide +kernel
theorem dL_bestChance_13 : decode cL_bestChance 13 = .ok (.astore_n 3, 1) := by decide +kernel
theorem dL_bestChance_14 : decode cL_bestChance 14 = .ok (.iconst 1, 1) := by decide +kernel
theorem dL_bestChance_15 : decode cL_bestChance 15 = .ok (.ireturn, 1) := by decide +kernel
theorem dL_bestChance_16 : decode cL_bestChance 16 = .ok (.iconst 0, 1) := by decide +kernel
theorem dL_bestChance_17 : decode cL_bestChance 17 = .ok (.ireturn, 1) := by decide +kernel
theorem dL_auction_0 : decode cL_auction 0 = .ok (.aload_n 2, 1) := by decide +kernel
theorem dL_auction_1 : decode cL_auction 1 = .ok (.aload_n 0, 1) := by decide +kernel
theorem dL_auction_2 : decode cL_auction 2 = .ok (.iload_n 1, 1) := by decide +kernel
theorem dL_auction_3 : decode cL_auction 3 = .ok (.invokevirtual 80, 3) := by decide +kernel
theorem dL_auction_6 : decode cL_auction 6 = .ok (.i2l, 1) := by decide +kernel
theorem dL_auction_7 : decode cL_auction 7 = .ok (.putfield 13, 3) := by decide +kernel
theorem dL_auction_10 : decode cL_auction 10 = .ok (.goto 6, 3) := by decide +kernel
theorem dL_auction_13 : decode cL_auction 13 = .ok (.astore_n 3, 1) := by decide +kernel
theorem dL_auction_14 : decode cL_auction 14 = .ok (.iconst 1, 1) := by decide +kernel
theorem dL_auction_15 : decode cL_auction 15 = .ok (.ireturn, 1) := by decide +kernel
theorem dL_auction_16 : decode cL_auction 16 = .ok (.iconst 0, 1) := by decide +kernel
theorem dL_auction_17 : decode cL_auction 17 = .ok (.ireturn, 1) := by decide +kernel
theorem dL_law_0 : decode cL_law 0 = .ok (.new 8, 3) := by decide +kernel
theorem dL_law_3 : decode cL_law 3 = .ok (.dup, 1) := by decide +kernel
theorem dL_law_4 : decode cL_law 4 = .ok (.invokespecial 83, 3) := by decide +kernel
theorem dL_law_7 : decode cL_law 7 = .ok (.astore_n 1, 1) := by decide +kernel
theorem dL_law_8 : decode cL_law 8 = .ok (.new 84, 3) := by decide +kernel
theorem dL_law_11 : decode cL_law 11 = .ok (.dup, 1) := by decide +kernel
theorem dL_law_12 : decode cL_law 12 = .ok (.invokespecial 86, 3) := by decide +kernel
theorem dL_law_15 : decode cL_law 15 = .ok (.astore_n 2, 1) := by decide +kernel
theorem dL_law_16 : decode cL_law 16 = .ok (.new 14, 3) := by decide +kernel
theorem dL_law_19 : decode cL_law 19 = .ok (.dup, 1) := by decide +kernel
theorem dL_law_20 : decode cL_law 20 = .ok (.invokespecial 87, 3) := by decide +kernel
theorem dL_law_23 : decode cL_law 23 = .ok (.astore_n 3, 1) := by decide +kernel
theorem dL_law_24 : decode cL_law 24 = .ok (.iconst 0, 1) := by decide +kernel
theorem dL_law_25 : decode cL_law 25 = .ok (.istore 4, 2) := by decide +kernel
theorem dL_law_27 : decode cL_law 27 = .ok (.iload 4, 2) := by decide +kernel
theorem dL_law_29 : decode cL_law 29 = .ok (.aload_n 0, 1) := by decide +kernel
theorem dL_law_30 : decode cL_law 30 = .ok (.arraylength, 1) := by decide +kernel
theorem dL_law_31 : decode cL_law 31 = .ok (.iconst 5, 1) := by decide +kernel
theorem dL_law_32 : decode cL_law 32 = .ok (.isub, 1) := by decide +kernel
theorem dL_law_33 : decode cL_law 33 = .ok (.if_icmp .gt 1522, 3) := by decide +kernel
theorem dL_law_36 : decode cL_law 36 = .ok (.aload_n 0, 1) := by decide +kernel
theorem dL_law_37 : decode cL_law 37 = .ok (.iload 4, 2) := by decide +kernel
theorem dL_law_39 : decode cL_law 39 = .ok (.iaload, 1) := by decide +kernel
theorem dL_law_40 : decode cL_law 40 = .ok (.bipush 31, 2) := by decide +kernel
theorem dL_law_42 : decode cL_law 42 = .ok (.iand, 1) := by decide +kernel
theorem dL_law_43 : decode cL_law 43 = .ok (.tableswitch 1506 0 23 #[109, 218, 299, 396, 477, 534, 591, 672, 685, 698, 774, 843, 924, 1005, 1062, 1138, 1179, 1195, 1264, 1352, 1409, 1466, 1479, 1492], 109) := by decide +kernel
theorem dL_law_152 : decode cL_law 152 = .ok (.aload_n 1, 1) := by decide +kernel
theorem dL_law_153 : decode cL_law 153 = .ok (.aload_n 0, 1) := by decide +kernel
theorem dL_law_154 : decode cL_law 154 = .ok (.iload 4, 2) := by decide +kernel
theorem dL_law_156 : decode cL_law 156 = .ok (.iconst 1, 1) := by decide +kernel
theorem dL_law_157 : decode cL_law 157 = .ok (.iadd, 1) := by decide +kernel
theorem dL_law_158 : decode cL_law 158 = .ok (.iaload, 1) := by decide +kernel
theorem dL_law_159 : decode cL_law 159 = .ok (.aload_n 0, 1) := by decide +kernel
theorem dL_law_160 : decode cL_law 160 = .ok (.iload 4, 2) := by decide +kernel
theorem dL_law_162 : decode cL_law 162 = .ok (.iconst 2, 1) := by decide +kernel
theorem dL_law_163 : decode cL_law 163 = .ok (.iadd, 1) := by decide +kernel
theorem dL_law_164 : decode cL_law 164 = .ok (.iaload, 1) := by decide +kernel
theorem dL_law_165 : decode cL_law 165 = .ok (.aload_n 0, 1) := by decide +kernel
theorem dL_law_166 : decode cL_law 166 = .ok (.iload 4, 2) := by decide +kernel
theorem dL_law_168 : decode cL_law 168 = .ok (.iconst 3, 1) := by decide +kernel
theorem dL_law_169 : decode cL_law 169 = .ok (.iadd, 1) := by decide +kernel
theorem dL_law_170 : decode cL_law 170 = .ok (.iaload, 1) := by decide +kernel
theorem dL_law_171 : decode cL_law 171 = .ok (.aload_n 0, 1) := by decide +kernel
theorem dL_law_172 : decode cL_law 172 = .ok (.iload 4, 2) := by decide +kernel
theorem dL_law_174 : decode cL_law 174 = .ok (.iconst 4, 1) := by decide +kernel
theorem dL_law_175 : decode cL_law 175 = .ok (.iadd, 1) := by decide +kernel
theorem dL_law_176 : decode cL_law 176 = .ok (.iaload, 1) := by decide +kernel
theorem dL_law_177 : decode cL_law 177 = .ok (.ifCond .eq 7, 3) := by decide +kernel
theorem dL_law_180 : decode cL_law 180 = .ok (.iconst 1, 1) := by decide +kernel
theorem dL_law_181 : decode cL_law 181 = .ok (.goto 4, 3) := by decide +kernel
theorem dL_law_184 : decode cL_law 184 = .ok (.iconst 0, 1) := by decide +kernel
theorem dL_law_185 : decode cL_law 185 = .ok (.aload_n 3, 1) := by decide +kernel
theorem dL_law_186 : decode cL_law 186 = .ok (.invokestatic 88, 3) := by decide +kernel
theorem dL_law_189 : decode cL_law 189 = .ok (.istore 5, 2) := by decide +kernel
theorem dL_law_191 : decode cL_law 191 = .ok (.aload_n 2, 1) := by decide +kernel
theorem dL_law_192 : decode cL_law 192 = .ok (.aload_n 0, 1) := by decide +kernel
theorem dL_law_193 : decode cL_law 193 = .ok (.iload 4, 2) := by decide +kernel
theorem dL_law_195 : decode cL_law 195 = .ok (.iconst 1, 1) := by decide +kernel
theorem dL_law_196 : decode cL_law 196 = .ok (.iadd, 1) := by decide +kernel
theorem dL_law_197 : decode cL_law 197 = .ok (.iaload, 1) := by decide +kernel
theorem dL_law_198 : decode cL_law 198 = .ok (.aload_n 0, 1) := by decide +kernel
theorem dL_law_199 : decode cL_law 199 = .ok (.iload 4, 2) := by decide +kernel
theorem dL_law_201 : decode cL_law 201 = .ok (.iconst 2, 1) := by decide +kernel
theorem dL_law_202 : decode cL_law 202 = .ok (.iadd, 1) := by decide +kernel
theorem dL_law_203 : decode cL_law 203 = .ok (.iaload, 1) := by decide +kernel
theorem dL_law_204 : decode cL_law 204 = .ok (.aload_n 0, 1) := by decide +kernel
theorem dL_law_205 : decode cL_law 205 = .ok (.iload 4, 2) := by decide +kernel
theorem dL_law_207 : decode cL_law 207 = .ok (.iconst 3, 1) := by decide +kernel
theorem dL_law_208 : decode cL_law 208 = .ok (.iadd, 1) := by decide +kernel
theorem dL_law_209 : decode cL_law 209 = .ok (.iaload, 1) := by decide +kernel
theorem dL_law_210 : decode cL_law 210 = .ok (.aload_n 0, 1) := by decide +kernel
theorem dL_law_211 : decode cL_law 211 = .ok (.iload 4, 2) := by decide +kernel
theorem dL_law_213 : decode cL_law 213 = .ok (.iconst 4, 1) := by decide +kernel
theorem dL_law_214 : decode cL_law 214 = .ok (.iadd, 1) := by decide +kernel
theorem dL_law_215 : decode cL_law 215 = .ok (.iaload, 1) := by decide +kernel
theorem dL_law_216 : decode cL_law 216 = .ok (.ifCond .eq 7, 3) := by decide +kernel
theorem dL_law_219 : decode cL_law 219 = .ok (.iconst 1, 1) := by decide +kernel
theorem dL_law_220 : decode cL_law 220 = .ok (.goto 4, 3) := by decide +kernel
theorem dL_law_223 : decode cL_law 223 = .ok (.iconst 0, 1) := by decide +kernel
theorem dL_law_224 : decode cL_law 224 = .ok (.invokevirtual 93, 3) := by decide +kernel
theorem dL_law_227 : decode cL_law 227 = .ok (.istore 6, 2) := by decide +kernel
theorem dL_law_229 : decode cL_law 229 = .ok (.aload_n 2, 1) := by decide +kernel
theorem dL_law_230 : decode cL_law 230 = .ok (.invokevirtual 94, 3) := by decide +kernel
theorem dL_law_233 : decode cL_law 233 = .ok (.iload 5, 2) := by decide +kernel
theorem dL_law_235 : decode cL_law 235 = .ok (.if_icmp .eq 5, 3) := by decide +kernel
theorem dL_law_238 : decode cL_law 238 = .ok (.iconst 0, 1) := by decide +kernel
theorem dL_law_239 : decode cL_law 239 = .ok (.ireturn, 1) := by decide +kernel
theorem dL_law_240 : decode cL_law 240 = .ok (.iload 5, 2) := by decide +kernel
theorem dL_law_242 : decode cL_law 242 = .ok (.ifCond .ne 16, 3) := by decide +kernel
theorem dL_law_245 : decode cL_law 245 = .ok (.aload_n 3, 1) := by decide +kernel
theorem dL_law_246 : decode cL_law 246 = .ok (.getfield 13, 3) := by decide +kernel
theorem dL_law_249 : decode cL_law 249 = .ok (.iload 6, 2) := by decide +kernel
theorem dL_law_251 : decode cL_law 251 = .ok (.i2l, 1) := by decide +kernel
theorem dL_law_252 : decode cL_law 252 = .ok (.lcmp, 1) := by decide +kernel
theorem dL_law_253 : decode cL_law 253 = .ok (.ifCond .eq 5, 3) := by decide +kernel
theorem dL_law_256 : decode cL_law 256 = .ok (.iconst 0, 1) := by decide +kernel
theorem dL_law_257 : decode cL_law 257 = .ok (.ireturn, 1) := by decide +kernel
theorem dL_law_258 : decode cL_law 258 = .ok (.goto 1291, 3) := by decide +kernel
theorem dL_law_261 : decode cL_law 261 = .ok (.aload_n 1, 1) := by decide +kernel
theorem dL_law_262 : decode cL_law 262 = .ok (.aload_n 0, 1) := by decide +kernel
theorem dL_law_263 : decode cL_law 263 = .ok (.iload 4, 2) := by decide +kernel
theorem dL_law_265 : decode cL_law 265 = .ok (.iconst 1, 1) := by decide +kernel
theorem dL_law_266 : decode cL_law 266 = .ok (.iadd, 1) := by decide +kernel
theorem dL_law_267 : decode cL_law 267 = .ok (.iaload, 1) := by decide +kernel
theorem dL_law_268 : decode cL_law 268 = .ok (.aload_n 0, 1) := by decide +kernel
theorem dL_law_269 : decode cL_law 269 = .ok (.iload 4, 2) := by decide +kernel
theorem dL_law_271 : decode cL_law 271 = .ok (.iconst 2, 1) := by decide +kernel
theorem dL_law_272 : decode cL_law 272 = .ok (.iadd, 1) := by decide +kernel
theorem dL_law_273 : decode cL_law 273 = .ok (.iaload, 1) := by decide +kernel
theorem dL_law_274 : decode cL_law 274 = .ok (.aload_n 0, 1) := by decide +kernel
theorem dL_law_275 : decode cL_law 275 = .ok (.iload 4, 2) := by decide +kernel
theorem dL_law_277 : decode cL_law 277 = .ok (.iconst 3, 1) := by decide +kernel
theorem dL_law_278 : decode cL_law 278 = .ok (.iadd, 1) := by decide +kernel
theorem dL_law_279 : decode cL_law 279 = .ok (.iaload, 1) := by decide +kernel
theorem dL_law_280 : decode cL_law 280 = .ok (.aload_n 3, 1) := by decide +kernel
theorem dL_law_281 : decode cL_law 281 = .ok (.invokestatic 98, 3) := by decide +kernel
theorem dL_law_284 : decode cL_law 284 = .ok (.istore 5, 2) := by decide +kernel
theorem dL_law_286 : decode cL_law 286 = .ok (.aload_n 2, 1) := by decide +kernel
theorem dL_law_287 : decode cL_law 287 = .ok (.aload_n 0, 1) := by decide +kernel
theorem dL_law_288 : decode cL_law 288 = .ok (.iload 4, 2) := by decide +kernel
theorem dL_law_290 : decode cL_law 290 = .ok (.iconst 1, 1) := by decide +kernel
theorem dL_law_291 : decode cL_law 291 = .ok (.iadd, 1) := by decide +kernel
theorem dL_law_292 : decode cL_law 292 = .ok (.iaload, 1) := by decide +kernel
theorem dL_law_293 : decode cL_law 293 = .ok (.aload_n 0, 1) := by decide +kernel
theorem dL_law_294 : decode cL_law 294 = .ok (.iload 4, 2) := by decide +kernel
theorem dL_law_296 : decode cL_law 296 = .ok (.iconst 2, 1) := by decide +kernel
theorem dL_law_297 : decode cL_law 297 = .ok (.iadd, 1) := by decide +kernel
theorem dL_law_298 : decode cL_law 298 = .ok (.iaload, 1) := by decide +kernel
theorem dL_law_299 : decode cL_law 299 = .ok (.aload_n 0, 1) := by decide +kernel
theorem dL_law_300 : decode cL_law 300 = .ok (.iload 4, 2) := by decide +kernel
theorem dL_law_302 : decode cL_law 302 = .ok (.iconst 3, 1) := by decide +kernel
theorem dL_law_303 : decode cL_law 303 = .ok (.iadd, 1) := by decide +kernel
theorem dL_law_304 : decode cL_law 304 = .ok (.iaload, 1) := by decide +kernel
theorem dL_law_305 : decode cL_law 305 = .ok (.invokevirtual 101, 3) := by decide +kernel
theorem dL_law_308 : decode cL_law 308 = .ok (.istore 6, 2) := by decide +kernel
theorem dL_law_310 : decode cL_law 310 = .ok (.aload_n 2, 1) := by decide +kernel
theorem dL_law_311 : decode cL_law 311 = .ok (.invokevirtual 94, 3) := by decide +kernel
theorem dL_law_314 : decode cL_law 314 = .ok (.iload 5, 2) := by decide +kernel
theorem dL_law_316 : decode cL_law 316 = .ok (.if_icmp .eq 5, 3) := by decide +kernel
theorem dL_law_319 : decode cL_law 319 = .ok (.iconst 0, 1) := by decide +kernel
theorem dL_law_320 : decode cL_law 320 = .ok (.ireturn, 1) := by decide +kernel
theorem dL_law_321 : decode cL_law 321 = .ok (.iload 5, 2) := by decide +kernel
theorem dL_law_323 : decode cL_law 323 = .ok (.ifCond .ne 16, 3) := by decide +kernel
theorem dL_law_326 : decode cL_law 326 = .ok (.aload_n 3, 1) := by decide +kernel
theorem dL_law_327 : decode cL_law 327 = .ok (.getfield 13, 3) := by decide +kernel
theorem dL_law_330 : decode cL_law 330 = .ok (.iload 6, 2) := by decide +kernel
theorem dL_law_332 : decode cL_law 332 = .ok (.i2l, 1) := by decide +kernel
theorem dL_law_333 : decode cL_law 333 = .ok (.lcmp, 1) := by decide +kernel
theorem dL_law_334 : decode cL_law 334 = .ok (.ifCond .eq 5, 3) := by decide +kernel
theorem dL_law_337 : decode cL_law 337 = .ok (.iconst 0, 1) := by decide +kernel
theorem dL_law_338 : decode cL_law 338 = .ok (.ireturn, 1) := by decide +kernel
theorem dL_law_339 : decode cL_law 339 = .ok (.goto 1210, 3) := by decide +kernel
theorem dL_law_342 : decode cL_law 342 = .ok (.aload_n 1, 1) := by decide +kernel
theorem dL_law_343 : decode cL_law 343 = .ok (.aload_n 0, 1) := by decide +kernel
theorem dL_law_344 : decode cL_law 344 = .ok (.iload 4, 2) := by decide +kernel
theorem dL_law_346 : decode cL_law 346 = .ok (.iconst 1, 1) := by decide +kernel
theorem dL_law_347 : decode cL_law 347 = .ok (.iadd, 1) := by decide +kernel
theorem dL_law_348 : decode cL_law 348 = .ok (.iaload, 1) := by decide +kernel
theorem dL_law_349 : decode cL_law 349 = .ok (.aload_n 0, 1) := by decide +kernel
theorem dL_law_350 : decode cL_law 350 = .ok (.iload 4, 2) := by decide +kernel
theorem dL_law_352 : decode cL_law 352 = .ok (.iconst 2, 1) := by decide +kernel
theorem dL_law_353 : decode cL_law 353 = .ok (.iadd, 1) := by decide +kernel
theorem dL_law_354 : decode cL_law 354 = .ok (.iaload, 1) := by decide +kernel
theorem dL_law_355 : decode cL_law 355 = .ok (.aload_n 0, 1) := by decide +kernel
theorem dL_law_356 : decode cL_law 356 = .ok (.iload 4, 2) := by decide +kernel
theorem dL_law_358 : decode cL_law 358 = .ok (.iconst 3, 1) := by decide +kernel
theorem dL_law_359 : decode cL_law 359 = .ok (.iadd, 1) := by decide +kernel
theorem dL_law_360 : decode cL_law 360 = .ok (.iaload, 1) := by decide +kernel
theorem dL_law_361 : decode cL_law 361 = .ok (.ifCond .eq 7, 3) := by decide +kernel
theorem dL_law_364 : decode cL_law 364 = .ok (.iconst 1, 1) := by decide +kernel
theorem dL_law_365 : decode cL_law 365 = .ok (.goto 4, 3) := by decide +kernel
theorem dL_law_368 : decode cL_law 368 = .ok (.iconst 0, 1) := by decide +kernel
theorem dL_law_369 : decode cL_law 369 = .ok (.aload_n 3, 1) := by decide +kernel
theorem dL_law_370 : decode cL_law 370 = .ok (.invokestatic 102, 3) := by decide +kernel
theorem dL_law_373 : decode cL_law 373 = .ok (.istore 5, 2) := by decide +kernel
theorem dL_law_375 : decode cL_law 375 = .ok (.aload_n 2, 1) := by decide +kernel
theorem dL_law_376 : decode cL_law 376 = .ok (.aload_n 0, 1) := by decide +kernel
theorem dL_law_377 : decode cL_law 377 = .ok (.iload 4, 2) := by decide +kernel
theorem dL_law_379 : decode cL_law 379 = .ok (.iconst 1, 1) := by decide +kernel
theorem dL_law_380 : decode cL_law 380 = .ok (.iadd, 1) := by decide +kernel
theorem dL_law_381 : decode cL_law 381 = .ok (.iaload, 1) := by decide +kernel
theorem dL_law_382 : decode cL_law 382 = .ok (.aload_n 0, 1) := by decide +kernel
theorem dL_law_383 : decode cL_law 383 = .ok (.iload 4, 2) := by decide +kernel
theorem dL_law_385 : decode cL_law 385 = .ok (.iconst 2, 1) := by decide +kernel
theorem dL_law_386 : decode cL_law 386 = .ok (.iadd, 1) := by decide +kernel
theorem dL_law_387 : decode cL_law 387 = .ok (.iaload, 1) := by decide +kernel
theorem dL_law_388 : decode cL_law 388 = .ok (.aload_n 0, 1) := by decide +kernel
theorem dL_law_389 : decode cL_law 389 = .ok (.iload 4, 2) := by decide +kernel
theorem dL_law_391 : decode cL_law 391 = .ok (.iconst 3, 1) := by decide +kernel
theorem dL_law_392 : decode cL_law 392 = .ok (.iadd, 1) := by decide +kernel
theorem dL_law_393 : decode cL_law 393 = .ok (.iaload, 1) := by decide +kernel
theorem dL_law_394 : decode cL_law 394 = .ok (.ifCond .eq 7, 3) := by decide +kernel
theorem dL_law_397 : decode cL_law 397 = .ok (.iconst 1, 1) := by decide +kernel
theorem dL_law_398 : decode cL_law 398 = .ok (.goto 4, 3) := by decide +kernel
theorem dL_law_401 : decode cL_law 401 = .ok (.iconst 0, 1) := by decide +kernel
theorem dL_law_402 : decode cL_law 402 = .ok (.invokevirtual 105, 3) := by decide +kernel
theorem dL_law_405 : decode cL_law 405 = .ok (.istore 6, 2) := by decide +kernel
theorem dL_law_407 : decode cL_law 407 = .ok (.aload_n 2, 1) := by decide +kernel
theorem dL_law_408 : decode cL_law 408 = .ok (.invokevirtual 94, 3) := by decide +kernel
theorem dL_law_411 : decode cL_law 411 = .ok (.iload 5, 2) := by decide +kernel
theorem dL_law_413 : decode cL_law 413 = .ok (.if_icmp .eq 5, 3) := by decide +kernel
theorem dL_law_416 : decode cL_law 416 = .ok (.iconst 0, 1) := by decide +kernel
theorem dL_law_417 : decode cL_law 417 = .ok (.ireturn, 1) := by decide +kernel
theorem dL_law_418 : decode cL_law 418 = .ok (.iload 5, 2) := by decide +kernel
theorem dL_law_420 : decode cL_law 420 = .ok (.ifCond .ne 16, 3) := by decide +kernel
theorem dL_law_423 : decode cL_law 423 = .ok (.aload_n 3, 1) := by decide +kernel
theorem dL_law_424 : decode cL_law 424 = .ok (.getfield 13, 3) := by decide +kernel
theorem dL_law_427 : decode cL_law 427 = .ok (.iload 6, 2) := by decide +kernel
theorem dL_law_429 : decode cL_law 429 = .ok (.i2l, 1) := by decide +kernel
theorem dL_law_430 : decode cL_law 430 = .ok (.lcmp, 1) := by decide +kernel
theorem dL_law_431 : decode cL_law 431 = .ok (.ifCond .eq 5, 3) := by decide +kernel
theorem dL_law_434 : decode cL_law 434 = .ok (.iconst 0, 1) := by decide +kernel
theorem dL_law_435 : decode cL_law 435 = .ok (.ireturn, 1) := by decide +kernel
theorem dL_law_436 : decode cL_law 436 = .ok (.goto 1113, 3) := by decide +kernel
theorem dL_law_439 : decode cL_law 439 = .ok (.aload_n 1, 1) := by decide +kernel
theorem dL_law_440 : decode cL_law 440 = .ok (.aload_n 0, 1) := by decide +kernel
theorem dL_law_441 : decode cL_law 441 = .ok (.iload 4, 2) := by decide +kernel
theorem dL_law_443 : decode cL_law 443 = .ok (.iconst 1, 1) := by decide +kernel
theorem dL_law_444 : decode cL_law 444 = .ok (.iadd, 1) := by decide +kernel
theorem dL_law_445 : decode cL_law 445 = .ok (.iaload, 1) := by decide +kernel
theorem dL_law_446 : decode cL_law 446 = .ok (.aload_n 0, 1) := by decide +kernel
theorem dL_law_447 : decode cL_law 447 = .ok (.iload 4, 2) := by decide +kernel
theorem dL_law_449 : decode cL_law 449 = .ok (.iconst 2, 1) := by decide +kernel
theorem dL_law_450 : decode cL_law 450 = .ok (.iadd, 1) := by decide +kernel
theorem dL_law_451 : decode cL_law 451 = .ok (.iaload, 1) := by decide +kernel
theorem dL_law_452 : decode cL_law 452 = .ok (.aload_n 0, 1) := by decide +kernel
theorem dL_law_453 : decode cL_law 453 = .ok (.iload 4, 2) := by decide +kernel
theorem dL_law_455 : decode cL_law 455 = .ok (.iconst 3, 1) := by decide +kernel
theorem dL_law_456 : decode cL_law 456 = .ok (.iadd, 1) := by decide +kernel
theorem dL_law_457 : decode cL_law 457 = .ok (.iaload, 1) := by decide +kernel
theorem dL_law_458 : decode cL_law 458 = .ok (.aload_n 3, 1) := by decide +kernel
theorem dL_law_459 : decode cL_law 459 = .ok (.invokestatic 106, 3) := by decide +kernel
theorem dL_law_462 : decode cL_law 462 = .ok (.istore 5, 2) := by decide +kernel
theorem dL_law_464 : decode cL_law 464 = .ok (.aload_n 2, 1) := by decide +kernel
theorem dL_law_465 : decode cL_law 465 = .ok (.aload_n 0, 1) := by decide +kernel
theorem dL_law_466 : decode cL_law 466 = .ok (.iload 4, 2) := by decide +kernel
theorem dL_law_468 : decode cL_law 468 = .ok (.iconst 1, 1) := by decide +kernel
theorem dL_law_469 : decode cL_law 469 = .ok (.iadd, 1) := by decide +kernel
theorem dL_law_470 : decode cL_law 470 = .ok (.iaload, 1) := by decide +kernel
theorem dL_law_471 : decode cL_law 471 = .ok (.aload_n 0, 1) := by decide +kernel
theorem dL_law_472 : decode cL_law 472 = .ok (.iload 4, 2) := by decide +kernel
theorem dL_law_474 : decode cL_law 474 = .ok (.iconst 2, 1) := by decide +kernel
theorem dL_law_475 : decode cL_law 475 = .ok (.iadd, 1) := by decide +kernel
theorem dL_law_476 : decode cL_law 476 = .ok (.iaload, 1) := by decide +kernel
theorem dL_law_477 : decode cL_law 477 = .ok (.aload_n 0, 1) := by decide +kernel
theorem dL_law_478 : decode cL_law 478 = .ok (.iload 4, 2) := by decide +kernel
theorem dL_law_480 : decode cL_law 480 = .ok (.iconst 3, 1) := by decide +kernel
theorem dL_law_481 : decode cL_law 481 = .ok (.iadd, 1) := by decide +kernel
theorem dL_law_482 : decode cL_law 482 = .ok (.iaload, 1) := by decide +kernel
theorem dL_law_483 : decode cL_law 483 = .ok (.invokevirtual 108, 3) := by decide +kernel
theorem dL_law_486 : decode cL_law 486 = .ok (.istore 6, 2) := by decide +kernel
theorem dL_law_488 : decode cL_law 488 = .ok (.aload_n 2, 1) := by decide +kernel
theorem dL_law_489 : decode cL_law 489 = .ok (.invokevirtual 94, 3) := by decide +kernel
theorem dL_law_492 : decode cL_law 492 = .ok (.iload 5, 2) := by decide +kernel
theorem dL_law_494 : decode cL_law 494 = .ok (.if_icmp .eq 5, 3) := by decide +kernel
theorem dL_law_497 : decode cL_law 497 = .ok (.iconst 0, 1) := by decide +kernel
theorem dL_law_498 : decode cL_law 498 = .ok (.ireturn, 1) := by decide +kernel
theorem dL_law_499 : decode cL_law 499 = .ok (.iload 5, 2) := by decide +kernel
theorem dL_law_501 : decode cL_law 501 = .ok (.ifCond .ne 16, 3) := by decide +kernel
theorem dL_law_504 : decode cL_law 504 = .ok (.aload_n 3, 1) := by decide +kernel
theorem dL_law_505 : decode cL_law 505 = .ok (.getfield 13, 3) := by decide +kernel
theorem dL_law_508 : decode cL_law 508 = .ok (.iload 6, 2) := by decide +kernel
theorem dL_law_510 : decode cL_law 510 = .ok (.i2l, 1) := by decide +kernel
theorem dL_law_511 : decode cL_law 511 = .ok (.lcmp, 1) := by decide +kernel
theorem dL_law_512 : decode cL_law 512 = .ok (.ifCond .eq 5, 3) := by decide +kernel
theorem dL_law_515 : decode cL_law 515 = .ok (.iconst 0, 1) := by decide +kernel
theorem dL_law_516 : decode cL_law 516 = .ok (.ireturn, 1) := by decide +kernel
theorem dL_law_517 : decode cL_law 517 = .ok (.goto 1032, 3) := by decide +kernel
theorem dL_law_520 : decode cL_law 520 = .ok (.aload_n 1, 1) := by decide +kernel
theorem dL_law_521 : decode cL_law 521 = .ok (.aload_n 0, 1) := by decide +kernel
theorem dL_law_522 : decode cL_law 522 = .ok (.iload 4, 2) := by decide +kernel
theorem dL_law_524 : decode cL_law 524 = .ok (.iconst 1, 1) := by decide +kernel
theorem dL_law_525 : decode cL_law 525 = .ok (.iadd, 1) := by decide +kernel
theorem dL_law_526 : decode cL_law 526 = .ok (.iaload, 1) := by decide +kernel
theorem dL_law_527 : decode cL_law 527 = .ok (.aload_n 3, 1) := by decide +kernel
theorem dL_law_528 : decode cL_law 528 = .ok (.invokestatic 109, 3) := by decide +kernel
theorem dL_law_531 : decode cL_law 531 = .ok (.istore 5, 2) := by decide +kernel
theorem dL_law_533 : decode cL_law 533 = .ok (.aload_n 2, 1) := by decide +kernel
theorem dL_law_534 : decode cL_law 534 = .ok (.aload_n 0, 1) := by decide +kernel
theorem dL_law_535 : decode cL_law 535 = .ok (.iload 4, 2) := by decide +kernel
theorem dL_law_537 : decode cL_law 537 = .ok (.iconst 1, 1) := by decide +kernel
theorem dL_law_538 : decode cL_law 538 = .ok (.iadd, 1) := by decide +kernel
theorem dL_law_539 : decode cL_law 539 = .ok (.iaload, 1) := by decide +kernel
theorem dL_law_540 : decode cL_law 540 = .ok (.invokevirtual 112, 3) := by decide +kernel
theorem dL_law_543 : decode cL_law 543 = .ok (.istore 6, 2) := by decide +kernel
theorem dL_law_545 : decode cL_law 545 = .ok (.aload_n 2, 1) := by decide +kernel
theorem dL_law_546 : decode cL_law 546 = .ok (.invokevirtual 94, 3) := by decide +kernel
theorem dL_law_549 : decode cL_law 549 = .ok (.iload 5, 2) := by decide +kernel
theorem dL_law_551 : decode cL_law 551 = .ok (.if_icmp .eq 5, 3) := by decide +kernel
theorem dL_law_554 : decode cL_law 554 = .ok (.iconst 0, 1) := by decide +kernel
theorem dL_law_555 : decode cL_law 555 = .ok (.ireturn, 1) := by decide +kernel
theorem dL_law_556 : decode cL_law 556 = .ok (.iload 5, 2) := by decide +kernel
theorem dL_law_558 : decode cL_law 558 = .ok (.ifCond .ne 16, 3) := by decide +kernel
theorem dL_law_561 : decode cL_law 561 = .ok (.aload_n 3, 1) := by decide +kernel
theorem dL_law_562 : decode cL_law 562 = .ok (.getfield 13, 3) := by decide +kernel
theorem dL_law_565 : decode cL_law 565 = .ok (.iload 6, 2) := by decide +kernel
theorem dL_law_567 : decode cL_law 567 = .ok (.i2l, 1) := by decide +kernel
theorem dL_law_568 : decode cL_law 568 = .ok (.lcmp, 1) := by decide +kernel
theorem dL_law_569 : decode cL_law 569 = .ok (.ifCond .eq 5, 3) := by decide +kernel
theorem dL_law_572 : decode cL_law 572 = .ok (.iconst 0, 1) := by decide +kernel
theorem dL_law_573 : decode cL_law 573 = .ok (.ireturn, 1) := by decide +kernel
theorem dL_law_574 : decode cL_law 574 = .ok (.goto 975, 3) := by decide +kernel
theorem dL_law_577 : decode cL_law 577 = .ok (.aload_n 1, 1) := by decide +kernel
theorem dL_law_578 : decode cL_law 578 = .ok (.aload_n 0, 1) := by decide +kernel
theorem dL_law_579 : decode cL_law 579 = .ok (.iload 4, 2) := by decide +kernel
theorem dL_law_581 : decode cL_law 581 = .ok (.iconst 1, 1) := by decide +kernel
theorem dL_law_582 : decode cL_law 582 = .ok (.iadd, 1) := by decide +kernel
theorem dL_law_583 : decode cL_law 583 = .ok (.iaload, 1) := by decide +kernel
theorem dL_law_584 : decode cL_law 584 = .ok (.aload_n 3, 1) := by decide +kernel
theorem dL_law_585 : decode cL_law 585 = .ok (.invokestatic 113, 3) := by decide +kernel
theorem dL_law_588 : decode cL_law 588 = .ok (.istore 5, 2) := by decide +kernel
theorem dL_law_590 : decode cL_law 590 = .ok (.aload_n 2, 1) := by decide +kernel
theorem dL_law_591 : decode cL_law 591 = .ok (.aload_n 0, 1) := by decide +kernel
theorem dL_law_592 : decode cL_law 592 = .ok (.iload 4, 2) := by decide +kernel
theorem dL_law_594 : decode cL_law 594 = .ok (.iconst 1, 1) := by decide +kernel
theorem dL_law_595 : decode cL_law 595 = .ok (.iadd, 1) := by decide +kernel
theorem dL_law_596 : decode cL_law 596 = .ok (.iaload, 1) := by decide +kernel
theorem dL_law_597 : decode cL_law 597 = .ok (.invokevirtual 115, 3) := by decide +kernel
theorem dL_law_600 : decode cL_law 600 = .ok (.istore 6, 2) := by decide +kernel
theorem dL_law_602 : decode cL_law 602 = .ok (.aload_n 2, 1) := by decide +kernel
theorem dL_law_603 : decode cL_law 603 = .ok (.invokevirtual 94, 3) := by decide +kernel
theorem dL_law_606 : decode cL_law 606 = .ok (.iload 5, 2) := by decide +kernel
theorem dL_law_608 : decode cL_law 608 = .ok (.if_icmp .eq 5, 3) := by decide +kernel
theorem dL_law_611 : decode cL_law 611 = .ok (.iconst 0, 1) := by decide +kernel
theorem dL_law_612 : decode cL_law 612 = .ok (.ireturn, 1) := by decide +kernel
theorem dL_law_613 : decode cL_law 613 = .ok (.iload 5, 2) := by decide +kernel
theorem dL_law_615 : decode cL_law 615 = .ok (.ifCond .ne 16, 3) := by decide +kernel
theorem dL_law_618 : decode cL_law 618 = .ok (.aload_n 3, 1) := by decide +kernel
theorem dL_law_619 : decode cL_law 619 = .ok (.getfield 13, 3) := by decide +kernel
theorem dL_law_622 : decode cL_law 622 = .ok (.iload 6, 2) := by decide +kernel
theorem dL_law_624 : decode cL_law 624 = .ok (.i2l, 1) := by decide +kernel
theorem dL_law_625 : decode cL_law 625 = .ok (.lcmp, 1) := by decide +kernel
theorem dL_law_626 : decode cL_law 626 = .ok (.ifCond .eq 5, 3) := by decide +kernel
theorem dL_law_629 : decode cL_law 629 = .ok (.iconst 0, 1) := by decide +kernel
theorem dL_law_630 : decode cL_law 630 = .ok (.ireturn, 1) := by decide +kernel
theorem dL_law_631 : decode cL_law 631 = .ok (.goto 918, 3) := by decide +kernel
theorem dL_law_634 : decode cL_law 634 = .ok (.aload_n 1, 1) := by decide +kernel
theorem dL_law_635 : decode cL_law 635 = .ok (.aload_n 0, 1) := by decide +kernel
theorem dL_law_636 : decode cL_law 636 = .ok (.iload 4, 2) := by decide +kernel
theorem dL_law_638 : decode cL_law 638 = .ok (.iconst 1, 1) := by decide +kernel
theorem dL_law_639 : decode cL_law 639 = .ok (.iadd, 1) := by decide +kernel
theorem dL_law_640 : decode cL_law 640 = .ok (.iaload, 1) := by decide +kernel
theorem dL_law_641 : decode cL_law 641 = .ok (.aload_n 0, 1) := by decide +kernel
theorem dL_law_642 : decode cL_law 642 = .ok (.iload 4, 2) := by decide +kernel
theorem dL_law_644 : decode cL_law 644 = .ok (.iconst 2, 1) := by decide +kernel
theorem dL_law_645 : decode cL_law 645 = .ok (.iadd, 1) := by decide +kernel
theorem dL_law_646 : decode cL_law 646 = .ok (.iaload, 1) := by decide +kernel
theorem dL_law_647 : decode cL_law 647 = .ok (.aload_n 0, 1) := by decide +kernel
theorem dL_law_648 : decode cL_law 648 = .ok (.iload 4, 2) := by decide +kernel
theorem dL_law_650 : decode cL_law 650 = .ok (.iconst 3, 1) := by decide +kernel
theorem dL_law_651 : decode cL_law 651 = .ok (.iadd, 1) := by decide +kernel
theorem dL_law_652 : decode cL_law 652 = .ok (.iaload, 1) := by decide +kernel
theorem dL_law_653 : decode cL_law 653 = .ok (.aload_n 3, 1) := by decide +kernel
theorem dL_law_654 : decode cL_law 654 = .ok (.invokestatic 116, 3) := by decide +kernel
theorem dL_law_657 : decode cL_law 657 = .ok (.istore 5, 2) := by decide +kernel
theorem dL_law_659 : decode cL_law 659 = .ok (.aload_n 2, 1) := by decide +kernel
theorem dL_law_660 : decode cL_law 660 = .ok (.aload_n 0, 1) := by decide +kernel
theorem dL_law_661 : decode cL_law 661 = .ok (.iload 4, 2) := by decide +kernel
theorem dL_law_663 : decode cL_law 663 = .ok (.iconst 1, 1) := by decide +kernel
theorem dL_law_664 : decode cL_law 664 = .ok (.iadd, 1) := by decide +kernel
theorem dL_law_665 : decode cL_law 665 = .ok (.iaload, 1) := by decide +kernel
theorem dL_law_666 : decode cL_law 666 = .ok (.aload_n 0, 1) := by decide +kernel
theorem dL_law_667 : decode cL_law 667 = .ok (.iload 4, 2) := by decide +kernel
theorem dL_law_669 : decode cL_law 669 = .ok (.iconst 2, 1) := by decide +kernel
theorem dL_law_670 : decode cL_law 670 = .ok (.iadd, 1) := by decide +kernel
theorem dL_law_671 : decode cL_law 671 = .ok (.iaload, 1) := by decide +kernel
theorem dL_law_672 : decode cL_law 672 = .ok (.aload_n 0, 1) := by decide +kernel
theorem dL_law_673 : decode cL_law 673 = .ok (.iload 4, 2) := by decide +kernel
theorem dL_law_675 : decode cL_law 675 = .ok (.iconst 3, 1) := by decide +kernel
theorem dL_law_676 : decode cL_law 676 = .ok (.iadd, 1) := by decide +kernel
theorem dL_law_677 : decode cL_law 677 = .ok (.iaload, 1) := by decide +kernel
theorem dL_law_678 : decode cL_law 678 = .ok (.invokevirtual 118, 3) := by decide +kernel
theorem dL_law_681 : decode cL_law 681 = .ok (.istore 6, 2) := by decide +kernel
theorem dL_law_683 : decode cL_law 683 = .ok (.aload_n 2, 1) := by decide +kernel
theorem dL_law_684 : decode cL_law 684 = .ok (.invokevirtual 94, 3) := by decide +kernel
theorem dL_law_687 : decode cL_law 687 = .ok (.iload 5, 2) := by decide +kernel
theorem dL_law_689 : decode cL_law 689 = .ok (.if_icmp .eq 5, 3) := by decide +kernel
theorem dL_law_692 : decode cL_law 692 = .ok (.iconst 0, 1) := by decide +kernel
theorem dL_law_693 : decode cL_law 693 = .ok (.ireturn, 1) := by decide +kernel
theorem dL_law_694 : decode cL_law 694 = .ok (.iload 5, 2) := by decide +kernel
theorem dL_law_696 : decode cL_law 696 = .ok (.ifCond .ne 16, 3) := by decide +kernel
theorem dL_law_699 : decode cL_law 699 = .ok (.aload_n 3, 1) := by decide +kernel
theorem dL_law_700 : decode cL_law 700 = .ok (.getfield 13, 3) := by decide +kernel
theorem dL_law_703 : decode cL_law 703 = .ok (.iload 6, 2) := by decide +kernel
theorem dL_law_705 : decode cL_law 705 = .ok (.i2l, 1) := by decide +kernel
theorem dL_law_706 : decode cL_law 706 = .ok (.lcmp, 1) := by decide +kernel
theorem dL_law_707 : decode cL_law 707 = .ok (.ifCond .eq 5, 3) := by decide +kernel
theorem dL_law_710 : decode cL_law 710 = .ok (.iconst 0, 1) := by decide +kernel
theorem dL_law_711 : decode cL_law 711 = .ok (.ireturn, 1) := by decide +kernel
theorem dL_law_712 : decode cL_law 712 = .ok (.goto 837, 3) := by decide +kernel
theorem dL_law_715 : decode cL_law 715 = .ok (.aload_n 1, 1) := by decide +kernel
theorem dL_law_716 : decode cL_law 716 = .ok (.invokevirtual 119, 3) := by decide +kernel
theorem dL_law_719 : decode cL_law 719 = .ok (.aload_n 2, 1) := by decide +kernel
theorem dL_law_720 : decode cL_law 720 = .ok (.invokevirtual 122, 3) := by decide +kernel
theorem dL_law_723 : decode cL_law 723 = .ok (.if_icmp .eq 826, 3) := by decide +kernel
theorem dL_law_726 : decode cL_law 726 = .ok (.iconst 0, 1) := by decide +kernel
theorem dL_law_727 : decode cL_law 727 = .ok (.ireturn, 1) := by decide +kernel
theorem dL_law_728 : decode cL_law 728 = .ok (.aload_n 1, 1) := by decide +kernel
theorem dL_law_729 : decode cL_law 729 = .ok (.invokevirtual 123, 3) := by decide +kernel
theorem dL_law_732 : decode cL_law 732 = .ok (.aload_n 2, 1) := by decide +kernel
theorem dL_law_733 : decode cL_law 733 = .ok (.invokevirtual 126, 3) := by decide +kernel
theorem dL_law_736 : decode cL_law 736 = .ok (.if_icmp .eq 813, 3) := by decide +kernel
theorem dL_law_739 : decode cL_law 739 = .ok (.iconst 0, 1) := by decide +kernel
theorem dL_law_740 : decode cL_law 740 = .ok (.ireturn, 1) := by decide +kernel
theorem dL_law_741 : decode cL_law 741 = .ok (.aload_n 1, 1) := by decide +kernel
theorem dL_law_742 : decode cL_law 742 = .ok (.aload_n 0, 1) := by decide +kernel
theorem dL_law_743 : decode cL_law 743 = .ok (.iload 4, 2) := by decide +kernel
theorem dL_law_745 : decode cL_law 745 = .ok (.iconst 1, 1) := by decide +kernel
theorem dL_law_746 : decode cL_law 746 = .ok (.iadd, 1) := by decide +kernel
theorem dL_law_747 : decode cL_law 747 = .ok (.iaload, 1) := by decide +kernel
theorem dL_law_748 : decode cL_law 748 = .ok (.aload_n 0, 1) := by decide +kernel
theorem dL_law_749 : decode cL_law 749 = .ok (.iload 4, 2) := by decide +kernel
theorem dL_law_751 : decode cL_law 751 = .ok (.iconst 2, 1) := by decide +kernel
theorem dL_law_752 : decode cL_law 752 = .ok (.iadd, 1) := by decide +kernel
theorem dL_law_753 : decode cL_law 753 = .ok (.iaload, 1) := by decide +kernel
theorem dL_law_754 : decode cL_law 754 = .ok (.aload_n 3, 1) := by decide +kernel
theorem dL_law_755 : decode cL_law 755 = .ok (.invokestatic 127, 3) := by decide +kernel
theorem dL_law_758 : decode cL_law 758 = .ok (.istore 5, 2) := by decide +kernel
theorem dL_law_760 : decode cL_law 760 = .ok (.aload_n 2, 1) := by decide +kernel
theorem dL_law_761 : decode cL_law 761 = .ok (.aload_n 0, 1) := by decide +kernel
theorem dL_law_762 : decode cL_law 762 = .ok (.iload 4, 2) := by decide +kernel
theorem dL_law_764 : decode cL_law 764 = .ok (.iconst 1, 1) := by decide +kernel
theorem dL_law_765 : decode cL_law 765 = .ok (.iadd, 1) := by decide +kernel
theorem dL_law_766 : decode cL_law 766 = .ok (.iaload, 1) := by decide +kernel
theorem dL_law_767 : decode cL_law 767 = .ok (.aload_n 0, 1) := by decide +kernel
theorem dL_law_768 : decode cL_law 768 = .ok (.iload 4, 2) := by decide +kernel
theorem dL_law_770 : decode cL_law 770 = .ok (.iconst 2, 1) := by decide +kernel
theorem dL_law_771 : decode cL_law 771 = .ok (.iadd, 1) := by decide +kernel
theorem dL_law_772 : decode cL_law 772 = .ok (.iaload, 1) := by decide +kernel
theorem dL_law_773 : decode cL_law 773 = .ok (.invokevirtual 130, 3) := by decide +kernel
theorem dL_law_776 : decode cL_law 776 = .ok (.istore 6, 2) := by decide +kernel
theorem dL_law_778 : decode cL_law 778 = .ok (.aload_n 2, 1) := by decide +kernel
theorem dL_law_779 : decode cL_law 779 = .ok (.invokevirtual 94, 3) := by decide +kernel
theorem dL_law_782 : decode cL_law 782 = .ok (.iload 5, 2) := by decide +kernel
theorem dL_law_784 : decode cL_law 784 = .ok (.if_icmp .eq 5, 3) := by decide +kernel
theorem dL_law_787 : decode cL_law 787 = .ok (.iconst 0, 1) := by decide +kernel
theorem dL_law_788 : decode cL_law 788 = .ok (.ireturn, 1) := by decide +kernel
theorem dL_law_789 : decode cL_law 789 = .ok (.iload 5, 2) := by decide +kernel
theorem dL_law_791 : decode cL_law 791 = .ok (.ifCond .ne 23, 3) := by decide +kernel
theorem dL_law_794 : decode cL_law 794 = .ok (.aload_n 3, 1) := by decide +kernel
theorem dL_law_795 : decode cL_law 795 = .ok (.getfield 13, 3) := by decide +kernel
theorem dL_law_798 : decode cL_law 798 = .ok (.iload 6, 2) := by decide +kernel
theorem dL_law_800 : decode cL_law 800 = .ok (.ifCond .eq 7, 3) := by decide +kernel
theorem dL_law_803 : decode cL_law 803 = .ok (.lconst 1, 1) := by decide +kernel
theorem dL_law_804 : decode cL_law 804 = .ok (.goto 4, 3) := by decide +kernel
theorem dL_law_807 : decode cL_law 807 = .ok (.lconst 0, 1) := by decide +kernel
theorem dL_law_808 : decode cL_law 808 = .ok (.lcmp, 1) := by decide +kernel
theorem dL_law_809 : decode cL_law 809 = .ok (.ifCond .eq 5, 3) := by decide +kernel
theorem dL_law_812 : decode cL_law 812 = .ok (.iconst 0, 1) := by decide +kernel
theorem dL_law_813 : decode cL_law 813 = .ok (.ireturn, 1) := by decide +kernel
theorem dL_law_814 : decode cL_law 814 = .ok (.goto 735, 3) := by decide +kernel
theorem dL_law_817 : decode cL_law 817 = .ok (.aload_n 1, 1) := by decide +kernel
theorem dL_law_818 : decode cL_law 818 = .ok (.aload_n 0, 1) := by decide +kernel
theorem dL_law_819 : decode cL_law 819 = .ok (.iload 4, 2) := by decide +kernel
theorem dL_law_821 : decode cL_law 821 = .ok (.iconst 1, 1) := by decide +kernel
theorem dL_law_822 : decode cL_law 822 = .ok (.iadd, 1) := by decide +kernel
theorem dL_law_823 : decode cL_law 823 = .ok (.iaload, 1) := by decide +kernel
theorem dL_law_824 : decode cL_law 824 = .ok (.aload_n 0, 1) := by decide +kernel
theorem dL_law_825 : decode cL_law 825 = .ok (.iload 4, 2) := by decide +kernel
theorem dL_law_827 : decode cL_law 827 = .ok (.iconst 2, 1) := by decide +kernel
theorem dL_law_828 : decode cL_law 828 = .ok (.iadd, 1) := by decide +kernel
theorem dL_law_829 : decode cL_law 829 = .ok (.iaload, 1) := by decide +kernel
theorem dL_law_830 : decode cL_law 830 = .ok (.aload_n 3, 1) := by decide +kernel
theorem dL_law_831 : decode cL_law 831 = .ok (.invokestatic 131, 3) := by decide +kernel
theorem dL_law_834 : decode cL_law 834 = .ok (.istore 5, 2) := by decide +kernel
theorem dL_law_836 : decode cL_law 836 = .ok (.aload_n 2, 1) := by decide +kernel
theorem dL_law_837 : decode cL_law 837 = .ok (.aload_n 0, 1) := by decide +kernel
theorem dL_law_838 : decode cL_law 838 = .ok (.iload 4, 2) := by decide +kernel
theorem dL_law_840 : decode cL_law 840 = .ok (.iconst 1, 1) := by decide +kernel
theorem dL_law_841 : decode cL_law 841 = .ok (.iadd, 1) := by decide +kernel
theorem dL_law_842 : decode cL_law 842 = .ok (.iaload, 1) := by decide +kernel
theorem dL_law_843 : decode cL_law 843 = .ok (.aload_n 0, 1) := by decide +kernel
theorem dL_law_844 : decode cL_law 844 = .ok (.iload 4, 2) := by decide +kernel
theorem dL_law_846 : decode cL_law 846 = .ok (.iconst 2, 1) := by decide +kernel
theorem dL_law_847 : decode cL_law 847 = .ok (.iadd, 1) := by decide +kernel
theorem dL_law_848 : decode cL_law 848 = .ok (.iaload, 1) := by decide +kernel
theorem dL_law_849 : decode cL_law 849 = .ok (.invokevirtual 133, 3) := by decide +kernel
theorem dL_law_852 : decode cL_law 852 = .ok (.istore 6, 2) := by decide +kernel
theorem dL_law_854 : decode cL_law 854 = .ok (.aload_n 2, 1) := by decide +kernel
theorem dL_law_855 : decode cL_law 855 = .ok (.invokevirtual 94, 3) := by decide +kernel
theorem dL_law_858 : decode cL_law 858 = .ok (.iload 5, 2) := by decide +kernel
theorem dL_law_860 : decode cL_law 860 = .ok (.if_icmp .eq 5, 3) := by decide +kernel
theorem dL_law_863 : decode cL_law 863 = .ok (.iconst 0, 1) := by decide +kernel
theorem dL_law_864 : decode cL_law 864 = .ok (.ireturn, 1) := by decide +kernel
theorem dL_law_865 : decode cL_law 865 = .ok (.iload 5, 2) := by decide +kernel
theorem dL_law_867 : decode cL_law 867 = .ok (.ifCond .ne 16, 3) := by decide +kernel
theorem dL_law_870 : decode cL_law 870 = .ok (.aload_n 3, 1) := by decide +kernel
theorem dL_law_871 : decode cL_law 871 = .ok (.getfield 13, 3) := by decide +kernel
theorem dL_law_874 : decode cL_law 874 = .ok (.iload 6, 2) := by decide +kernel
theorem dL_law_876 : decode cL_law 876 = .ok (.i2l, 1) := by decide +kernel
theorem dL_law_877 : decode cL_law 877 = .ok (.lcmp, 1) := by decide +kernel
theorem dL_law_878 : decode cL_law 878 = .ok (.ifCond .eq 5, 3) := by decide +kernel
theorem dL_law_881 : decode cL_law 881 = .ok (.iconst 0, 1) := by decide +kernel
theorem dL_law_882 : decode cL_law 882 = .ok (.ireturn, 1) := by decide +kernel
theorem dL_law_883 : decode cL_law 883 = .ok (.goto 666, 3) := by decide +kernel
theorem dL_law_886 : decode cL_law 886 = .ok (.aload_n 1, 1) := by decide +kernel
theorem dL_law_887 : decode cL_law 887 = .ok (.aload_n 0, 1) := by decide +kernel
theorem dL_law_888 : decode cL_law 888 = .ok (.iload 4, 2) := by decide +kernel
theorem dL_law_890 : decode cL_law 890 = .ok (.iconst 1, 1) := by decide +kernel
theorem dL_law_891 : decode cL_law 891 = .ok (.iadd, 1) := by decide +kernel
theorem dL_law_892 : decode cL_law 892 = .ok (.iaload, 1) := by decide +kernel
theorem dL_law_893 : decode cL_law 893 = .ok (.aload_n 0, 1) := by decide +kernel
theorem dL_law_894 : decode cL_law 894 = .ok (.iload 4, 2) := by decide +kernel
theorem dL_law_896 : decode cL_law 896 = .ok (.iconst 2, 1) := by decide +kernel
theorem dL_law_897 : decode cL_law 897 = .ok (.iadd, 1) := by decide +kernel
theorem dL_law_898 : decode cL_law 898 = .ok (.iaload, 1) := by decide +kernel
theorem dL_law_899 : decode cL_law 899 = .ok (.aload_n 0, 1) := by decide +kernel
theorem dL_law_900 : decode cL_law 900 = .ok (.iload 4, 2) := by decide +kernel
theorem dL_law_902 : decode cL_law 902 = .ok (.iconst 3, 1) := by decide +kernel
theorem dL_law_903 : decode cL_law 903 = .ok (.iadd, 1) := by decide +kernel
theorem dL_law_904 : decode cL_law 904 = .ok (.iaload, 1) := by decide +kernel
theorem dL_law_905 : decode cL_law 905 = .ok (.aload_n 3, 1) := by decide +kernel
theorem dL_law_906 : decode cL_law 906 = .ok (.invokestatic 134, 3) := by decide +kernel
theorem dL_law_909 : decode cL_law 909 = .ok (.istore 5, 2) := by decide +kernel
theorem dL_law_911 : decode cL_law 911 = .ok (.aload_n 2, 1) := by decide +kernel
theorem dL_law_912 : decode cL_law 912 = .ok (.aload_n 0, 1) := by decide +kernel
theorem dL_law_913 : decode cL_law 913 = .ok (.iload 4, 2) := by decide +kernel
theorem dL_law_915 : decode cL_law 915 = .ok (.iconst 1, 1) := by decide +kernel
theorem dL_law_916 : decode cL_law 916 = .ok (.iadd, 1) := by decide +kernel
theorem dL_law_917 : decode cL_law 917 = .ok (.iaload, 1) := by decide +kernel
theorem dL_law_918 : decode cL_law 918 = .ok (.aload_n 0, 1) := by decide +kernel
theorem dL_law_919 : decode cL_law 919 = .ok (.iload 4, 2) := by decide +kernel
theorem dL_law_921 : decode cL_law 921 = .ok (.iconst 2, 1) := by decide +kernel
theorem dL_law_922 : decode cL_law 922 = .ok (.iadd, 1) := by decide +kernel
theorem dL_law_923 : decode cL_law 923 = .ok (.iaload, 1) := by decide +kernel
theorem dL_law_924 : decode cL_law 924 = .ok (.aload_n 0, 1) := by decide +kernel
theorem dL_law_925 : decode cL_law 925 = .ok (.iload 4, 2) := by decide +kernel
theorem dL_law_927 : decode cL_law 927 = .ok (.iconst 3, 1) := by decide +kernel
theorem dL_law_928 : decode cL_law 928 = .ok (.iadd, 1) := by decide +kernel
theorem dL_law_929 : decode cL_law 929 = .ok (.iaload, 1) := by decide +kernel
theorem dL_law_930 : decode cL_law 930 = .ok (.invokevirtual 136, 3) := by decide +kernel
theorem dL_law_933 : decode cL_law 933 = .ok (.istore 6, 2) := by decide +kernel
theorem dL_law_935 : decode cL_law 935 = .ok (.aload_n 2, 1) := by decide +kernel
theorem dL_law_936 : decode cL_law 936 = .ok (.invokevirtual 94, 3) := by decide +kernel
theorem dL_law_939 : decode cL_law 939 = .ok (.iload 5, 2) := by decide +kernel
theorem dL_law_941 : decode cL_law 941 = .ok (.if_icmp .eq 5, 3) := by decide +kernel
theorem dL_law_944 : decode cL_law 944 = .ok (.iconst 0, 1) := by decide +kernel
theorem dL_law_945 : decode cL_law 945 = .ok (.ireturn, 1) := by decide +kernel
theorem dL_law_946 : decode cL_law 946 = .ok (.iload 5, 2) := by decide +kernel
theorem dL_law_948 : decode cL_law 948 = .ok (.ifCond .ne 16, 3) := by decide +kernel
theorem dL_law_951 : decode cL_law 951 = .ok (.aload_n 3, 1) := by decide +kernel
theorem dL_law_952 : decode cL_law 952 = .ok (.getfield 13, 3) := by decide +kernel
theorem dL_law_955 : decode cL_law 955 = .ok (.iload 6, 2) := by decide +kernel
theorem dL_law_957 : decode cL_law 957 = .ok (.i2l, 1) := by decide +kernel
theorem dL_law_958 : decode cL_law 958 = .ok (.lcmp, 1) := by decide +kernel
theorem dL_law_959 : decode cL_law 959 = .ok (.ifCond .eq 5, 3) := by decide +kernel
theorem dL_law_962 : decode cL_law 962 = .ok (.iconst 0, 1) := by decide +kernel
theorem dL_law_963 : decode cL_law 963 = .ok (.ireturn, 1) := by decide +kernel
theorem dL_law_964 : decode cL_law 964 = .ok (.goto 585, 3) := by decide +kernel
theorem dL_law_967 : decode cL_law 967 = .ok (.aload_n 1, 1) := by decide +kernel
theorem dL_law_968 : decode cL_law 968 = .ok (.aload_n 0, 1) := by decide +kernel
theorem dL_law_969 : decode cL_law 969 = .ok (.iload 4, 2) := by decide +kernel
theorem dL_law_971 : decode cL_law 971 = .ok (.iconst 1, 1) := by decide +kernel
theorem dL_law_972 : decode cL_law 972 = .ok (.iadd, 1) := by decide +kernel
theorem dL_law_973 : decode cL_law 973 = .ok (.iaload, 1) := by decide +kernel
theorem dL_law_974 : decode cL_law 974 = .ok (.aload_n 0, 1) := by decide +kernel
theorem dL_law_975 : decode cL_law 975 = .ok (.iload 4, 2) := by decide +kernel
theorem dL_law_977 : decode cL_law 977 = .ok (.iconst 2, 1) := by decide +kernel
theorem dL_law_978 : decode cL_law 978 = .ok (.iadd, 1) := by decide +kernel
theorem dL_law_979 : decode cL_law 979 = .ok (.iaload, 1) := by decide +kernel
theorem dL_law_980 : decode cL_law 980 = .ok (.aload_n 0, 1) := by decide +kernel
theorem dL_law_981 : decode cL_law 981 = .ok (.iload 4, 2) := by decide +kernel
theorem dL_law_983 : decode cL_law 983 = .ok (.iconst 3, 1) := by decide +kernel
theorem dL_law_984 : decode cL_law 984 = .ok (.iadd, 1) := by decide +kernel
theorem dL_law_985 : decode cL_law 985 = .ok (.iaload, 1) := by decide +kernel
theorem dL_law_986 : decode cL_law 986 = .ok (.aload_n 3, 1) := by decide +kernel
theorem dL_law_987 : decode cL_law 987 = .ok (.invokestatic 137, 3) := by decide +kernel
theorem dL_law_990 : decode cL_law 990 = .ok (.istore 5, 2) := by decide +kernel
theorem dL_law_992 : decode cL_law 992 = .ok (.aload_n 2, 1) := by decide +kernel
theorem dL_law_993 : decode cL_law 993 = .ok (.aload_n 0, 1) := by decide +kernel
theorem dL_law_994 : decode cL_law 994 = .ok (.iload 4, 2) := by decide +kernel
theorem dL_law_996 : decode cL_law 996 = .ok (.iconst 1, 1) := by decide +kernel
theorem dL_law_997 : decode cL_law 997 = .ok (.iadd, 1) := by decide +kernel
theorem dL_law_998 : decode cL_law 998 = .ok (.iaload, 1) := by decide +kernel
theorem dL_law_999 : decode cL_law 999 = .ok (.aload_n 0, 1) := by decide +kernel
theorem dL_law_1000 : decode cL_law 1000 = .ok (.iload 4, 2) := by decide +kernel
theorem dL_law_1002 : decode cL_law 1002 = .ok (.iconst 2, 1) := by decide +kernel
theorem dL_law_1003 : decode cL_law 1003 = .ok (.iadd, 1) := by decide +kernel
theorem dL_law_1004 : decode cL_law 1004 = .ok (.iaload, 1) := by decide +kernel
theorem dL_law_1005 : decode cL_law 1005 = .ok (.aload_n 0, 1) := by decide +kernel
theorem dL_law_1006 : decode cL_law 1006 = .ok (.iload 4, 2) := by decide +kernel
theorem dL_law_1008 : decode cL_law 1008 = .ok (.iconst 3, 1) := by decide +kernel
theorem dL_law_1009 : decode cL_law 1009 = .ok (.iadd, 1) := by decide +kernel
theorem dL_law_1010 : decode cL_law 1010 = .ok (.iaload, 1) := by decide +kernel
theorem dL_law_1011 : decode cL_law 1011 = .ok (.invokevirtual 139, 3) := by decide +kernel
theorem dL_law_1014 : decode cL_law 1014 = .ok (.istore 6, 2) := by decide +kernel
theorem dL_law_1016 : decode cL_law 1016 = .ok (.aload_n 2, 1) := by decide +kernel
theorem dL_law_1017 : decode cL_law 1017 = .ok (.invokevirtual 94, 3) := by decide +kernel
theorem dL_law_1020 : decode cL_law 1020 = .ok (.iload 5, 2) := by decide +kernel
theorem dL_law_1022 : decode cL_law 1022 = .ok (.if_icmp .eq 5, 3) := by decide +kernel
theorem dL_law_1025 : decode cL_law 1025 = .ok (.iconst 0, 1) := by decide +kernel
theorem dL_law_1026 : decode cL_law 1026 = .ok (.ireturn, 1) := by decide +kernel
theorem dL_law_1027 : decode cL_law 1027 = .ok (.iload 5, 2) := by decide +kernel
theorem dL_law_1029 : decode cL_law 1029 = .ok (.ifCond .ne 16, 3) := by decide +kernel
theorem dL_law_1032 : decode cL_law 1032 = .ok (.aload_n 3, 1) := by decide +kernel
theorem dL_law_1033 : decode cL_law 1033 = .ok (.getfield 13, 3) := by decide +kernel
theorem dL_law_1036 : decode cL_law 1036 = .ok (.iload 6, 2) := by decide +kernel
theorem dL_law_1038 : decode cL_law 1038 = .ok (.i2l, 1) := by decide +kernel
theorem dL_law_1039 : decode cL_law 1039 = .ok (.lcmp, 1) := by decide +kernel
theorem dL_law_1040 : decode cL_law 1040 = .ok (.ifCond .eq 5, 3) := by decide +kernel
theorem dL_law_1043 : decode cL_law 1043 = .ok (.iconst 0, 1) := by decide +kernel
theorem dL_law_1044 : decode cL_law 1044 = .ok (.ireturn, 1) := by decide +kernel
theorem dL_law_1045 : decode cL_law 1045 = .ok (.goto 504, 3) := by decide +kernel
theorem dL_law_1048 : decode cL_law 1048 = .ok (.aload_n 1, 1) := by decide +kernel
theorem dL_law_1049 : decode cL_law 1049 = .ok (.aload_n 0, 1) := by decide +kernel
theorem dL_law_1050 : decode cL_law 1050 = .ok (.iload 4, 2) := by decide +kernel
theorem dL_law_1052 : decode cL_law 1052 = .ok (.iconst 1, 1) := by decide +kernel
theorem dL_law_1053 : decode cL_law 1053 = .ok (.iadd, 1) := by decide +kernel
theorem dL_law_1054 : decode cL_law 1054 = .ok (.iaload, 1) := by decide +kernel
theorem dL_law_1055 : decode cL_law 1055 = .ok (.aload_n 3, 1) := by decide +kernel
theorem dL_law_1056 : decode cL_law 1056 = .ok (.invokestatic 140, 3) := by decide +kernel
theorem dL_law_1059 : decode cL_law 1059 = .ok (.istore 5, 2) := by decide +kernel
theorem dL_law_1061 : decode cL_law 1061 = .ok (.aload_n 2, 1) := by decide +kernel
theorem dL_law_1062 : decode cL_law 1062 = .ok (.aload_n 0, 1) := by decide +kernel
theorem dL_law_1063 : decode cL_law 1063 = .ok (.iload 4, 2) := by decide +kernel
theorem dL_law_1065 : decode cL_law 1065 = .ok (.iconst 1, 1) := by decide +kernel
theorem dL_law_1066 : decode cL_law 1066 = .ok (.iadd, 1) := by decide +kernel
theorem dL_law_1067 : decode cL_law 1067 = .ok (.iaload, 1) := by decide +kernel
theorem dL_law_1068 : decode cL_law 1068 = .ok (.invokevirtual 142, 3) := by decide +kernel
theorem dL_law_1071 : decode cL_law 1071 = .ok (.istore 6, 2) := by decide +kernel
theorem dL_law_1073 : decode cL_law 1073 = .ok (.aload_n 2, 1) := by decide +kernel
theorem dL_law_1074 : decode cL_law 1074 = .ok (.invokevirtual 94, 3) := by decide +kernel
theorem dL_law_1077 : decode cL_law 1077 = .ok (.iload 5, 2) := by decide +kernel
theorem dL_law_1079 : decode cL_law 1079 = .ok (.if_icmp .eq 5, 3) := by decide +kernel
theorem dL_law_1082 : decode cL_law 1082 = .ok (.iconst 0, 1) := by decide +kernel
theorem dL_law_1083 : decode cL_law 1083 = .ok (.ireturn, 1) := by decide +kernel
theorem dL_law_1084 : decode cL_law 1084 = .ok (.iload 5, 2) := by decide +kernel
theorem dL_law_1086 : decode cL_law 1086 = .ok (.ifCond .ne 16, 3) := by decide +kernel
theorem dL_law_1089 : decode cL_law 1089 = .ok (.aload_n 3, 1) := by decide +kernel
theorem dL_law_1090 : decode cL_law 1090 = .ok (.getfield 13, 3) := by decide +kernel
theorem dL_law_1093 : decode cL_law 1093 = .ok (.iload 6, 2) := by decide +kernel
theorem dL_law_1095 : decode cL_law 1095 = .ok (.i2l, 1) := by decide +kernel
theorem dL_law_1096 : decode cL_law 1096 = .ok (.lcmp, 1) := by decide +kernel
theorem dL_law_1097 : decode cL_law 1097 = .ok (.ifCond .eq 5, 3) := by decide +kernel
theorem dL_law_1100 : decode cL_law 1100 = .ok (.iconst 0, 1) := by decide +kernel
theorem dL_law_1101 : decode cL_law 1101 = .ok (.ireturn, 1) := by decide +kernel
theorem dL_law_1102 : decode cL_law 1102 = .ok (.goto 447, 3) := by decide +kernel
theorem dL_law_1105 : decode cL_law 1105 = .ok (.aload_n 1, 1) := by decide +kernel
theorem dL_law_1106 : decode cL_law 1106 = .ok (.aload_n 0, 1) := by decide +kernel
theorem dL_law_1107 : decode cL_law 1107 = .ok (.iload 4, 2) := by decide +kernel
theorem dL_law_1109 : decode cL_law 1109 = .ok (.iconst 1, 1) := by decide +kernel
theorem dL_law_1110 : decode cL_law 1110 = .ok (.iadd, 1) := by decide +kernel
theorem dL_law_1111 : decode cL_law 1111 = .ok (.iaload, 1) := by decide +kernel
theorem dL_law_1112 : decode cL_law 1112 = .ok (.aload_n 0, 1) := by decide +kernel
theorem dL_law_1113 : decode cL_law 1113 = .ok (.iload 4, 2) := by decide +kernel
theorem dL_law_1115 : decode cL_law 1115 = .ok (.iconst 2, 1) := by decide +kernel
theorem dL_law_1116 : decode cL_law 1116 = .ok (.iadd, 1) := by decide +kernel
theorem dL_law_1117 : decode cL_law 1117 = .ok (.iaload, 1) := by decide +kernel
theorem dL_law_1118 : decode cL_law 1118 = .ok (.aload_n 3, 1) := by decide +kernel
theorem dL_law_1119 : decode cL_law 1119 = .ok (.invokestatic 143, 3) := by decide +kernel
theorem dL_law_1122 : decode cL_law 1122 = .ok (.istore 5, 2) := by decide +kernel
theorem dL_law_1124 : decode cL_law 1124 = .ok (.aload_n 2, 1) := by decide +kernel
theorem dL_law_1125 : decode cL_law 1125 = .ok (.aload_n 0, 1) := by decide +kernel
theorem dL_law_1126 : decode cL_law 1126 = .ok (.iload 4, 2) := by decide +kernel
theorem dL_law_1128 : decode cL_law 1128 = .ok (.iconst 1, 1) := by decide +kernel
theorem dL_law_1129 : decode cL_law 1129 = .ok (.iadd, 1) := by decide +kernel
theorem dL_law_1130 : decode cL_law 1130 = .ok (.iaload, 1) := by decide +kernel
theorem dL_law_1131 : decode cL_law 1131 = .ok (.aload_n 0, 1) := by decide +kernel
theorem dL_law_1132 : decode cL_law 1132 = .ok (.iload 4, 2) := by decide +kernel
theorem dL_law_1134 : decode cL_law 1134 = .ok (.iconst 2, 1) := by decide +kernel
theorem dL_law_1135 : decode cL_law 1135 = .ok (.iadd, 1) := by decide +kernel
theorem dL_law_1136 : decode cL_law 1136 = .ok (.iaload, 1) := by decide +kernel
theorem dL_law_1137 : decode cL_law 1137 = .ok (.invokevirtual 145, 3) := by decide +kernel
theorem dL_law_1140 : decode cL_law 1140 = .ok (.istore 6, 2) := by decide +kernel
theorem dL_law_1142 : decode cL_law 1142 = .ok (.aload_n 2, 1) := by decide +kernel
theorem dL_law_1143 : decode cL_law 1143 = .ok (.invokevirtual 94, 3) := by decide +kernel
theorem dL_law_1146 : decode cL_law 1146 = .ok (.iload 5, 2) := by decide +kernel
theorem dL_law_1148 : decode cL_law 1148 = .ok (.if_icmp .eq 5, 3) := by decide +kernel
theorem dL_law_1151 : decode cL_law 1151 = .ok (.iconst 0, 1) := by decide +kernel
theorem dL_law_1152 : decode cL_law 1152 = .ok (.ireturn, 1) := by decide +kernel
theorem dL_law_1153 : decode cL_law 1153 = .ok (.iload 5, 2) := by decide +kernel
theorem dL_law_1155 : decode cL_law 1155 = .ok (.ifCond .ne 23, 3) := by decide +kernel
theorem dL_law_1158 : decode cL_law 1158 = .ok (.aload_n 3, 1) := by decide +kernel
theorem dL_law_1159 : decode cL_law 1159 = .ok (.getfield 13, 3) := by decide +kernel
theorem dL_law_1162 : decode cL_law 1162 = .ok (.iload 6, 2) := by decide +kernel
theorem dL_law_1164 : decode cL_law 1164 = .ok (.ifCond .eq 7, 3) := by decide +kernel
theorem dL_law_1167 : decode cL_law 1167 = .ok (.lconst 1, 1) := by decide +kernel
theorem dL_law_1168 : decode cL_law 1168 = .ok (.goto 4, 3) := by decide +kernel
theorem dL_law_1171 : decode cL_law 1171 = .ok (.lconst 0, 1) := by decide +kernel
theorem dL_law_1172 : decode cL_law 1172 = .ok (.lcmp, 1) := by decide +kernel
theorem dL_law_1173 : decode cL_law 1173 = .ok (.ifCond .eq 5, 3) := by decide +kernel
theorem dL_law_1176 : decode cL_law 1176 = .ok (.iconst 0, 1) := by decide +kernel
theorem dL_law_1177 : decode cL_law 1177 = .ok (.ireturn, 1) := by decide +kernel
theorem dL_law_1178 : decode cL_law 1178 = .ok (.goto 371, 3) := by decide +kernel
theorem dL_law_1181 : decode cL_law 1181 = .ok (.aload_n 1, 1) := by decide +kernel
theorem dL_law_1182 : decode cL_law 1182 = .ok (.invokevirtual 146, 3) := by decide +kernel
theorem dL_law_1185 : decode cL_law 1185 = .ok (.dstore 5, 2) := by decide +kernel
theorem dL_law_1187 : decode cL_law 1187 = .ok (.aload_n 2, 1) := by decide +kernel
theorem dL_law_1188 : decode cL_law 1188 = .ok (.invokevirtual 150, 3) := by decide +kernel
theorem dL_law_1191 : decode cL_law 1191 = .ok (.dstore 7, 2) := by decide +kernel
theorem dL_law_1193 : decode cL_law 1193 = .ok (.dload 5, 2) := by decide +kernel
theorem dL_law_1195 : decode cL_law 1195 = .ok (.dload 7, 2) := by decide +kernel
theorem dL_law_1197 : decode cL_law 1197 = .ok (.dcmp .l, 1) := by decide +kernel
theorem dL_law_1198 : decode cL_law 1198 = .ok (.ifCond .eq 21, 3) := by decide +kernel
theorem dL_law_1201 : decode cL_law 1201 = .ok (.dload 5, 2) := by decide +kernel
theorem dL_law_1203 : decode cL_law 1203 = .ok (.dload 5, 2) := by decide +kernel
theorem dL_law_1205 : decode cL_law 1205 = .ok (.dcmp .l, 1) := by decide +kernel
theorem dL_law_1206 : decode cL_law 1206 = .ok (.ifCond .eq 11, 3) := by decide +kernel
theorem dL_law_1209 : decode cL_law 1209 = .ok (.dload 7, 2) := by decide +kernel
theorem dL_law_1211 : decode cL_law 1211 = .ok (.dload 7, 2) := by decide +kernel
theorem dL_law_1213 : decode cL_law 1213 = .ok (.dcmp .l, 1) := by decide +kernel
theorem dL_law_1214 : decode cL_law 1214 = .ok (.ifCond .ne 5, 3) := by decide +kernel
theorem dL_law_1217 : decode cL_law 1217 = .ok (.iconst 0, 1) := by decide +kernel
theorem dL_law_1218 : decode cL_law 1218 = .ok (.ireturn, 1) := by decide +kernel
theorem dL_law_1219 : decode cL_law 1219 = .ok (.goto 330, 3) := by decide +kernel
theorem dL_law_1222 : decode cL_law 1222 = .ok (.aload_n 1, 1) := by decide +kernel
theorem dL_law_1223 : decode cL_law 1223 = .ok (.invokevirtual 151, 3) := by decide +kernel
theorem dL_law_1226 : decode cL_law 1226 = .ok (.aload_n 2, 1) := by decide +kernel
theorem dL_law_1227 : decode cL_law 1227 = .ok (.invokevirtual 155, 3) := by decide +kernel
theorem dL_law_1230 : decode cL_law 1230 = .ok (.invokevirtual 156, 3) := by decide +kernel
theorem dL_law_1233 : decode cL_law 1233 = .ok (.ifCond .ne 316, 3) := by decide +kernel
theorem dL_law_1236 : decode cL_law 1236 = .ok (.iconst 0, 1) := by decide +kernel
theorem dL_law_1237 : decode cL_law 1237 = .ok (.ireturn, 1) := by decide +kernel
theorem dL_law_1238 : decode cL_law 1238 = .ok (.aload_n 1, 1) := by decide +kernel
theorem dL_law_1239 : decode cL_law 1239 = .ok (.aload_n 0, 1) := by decide +kernel
theorem dL_law_1240 : decode cL_law 1240 = .ok (.iload 4, 2) := by decide +kernel
theorem dL_law_1242 : decode cL_law 1242 = .ok (.iconst 1, 1) := by decide +kernel
theorem dL_law_1243 : decode cL_law 1243 = .ok (.iadd, 1) := by decide +kernel
theorem dL_law_1244 : decode cL_law 1244 = .ok (.iaload, 1) := by decide +kernel
theorem dL_law_1245 : decode cL_law 1245 = .ok (.aload_n 0, 1) := by decide +kernel
theorem dL_law_1246 : decode cL_law 1246 = .ok (.iload 4, 2) := by decide +kernel
theorem dL_law_1248 : decode cL_law 1248 = .ok (.iconst 2, 1) := by decide +kernel
theorem dL_law_1249 : decode cL_law 1249 = .ok (.iadd, 1) := by decide +kernel
theorem dL_law_1250 : decode cL_law 1250 = .ok (.iaload, 1) := by decide +kernel
theorem dL_law_1251 : decode cL_law 1251 = .ok (.aload_n 3, 1) := by decide +kernel
theorem dL_law_1252 : decode cL_law 1252 = .ok (.invokestatic 162, 3) := by decide +kernel
theorem dL_law_1255 : decode cL_law 1255 = .ok (.istore 5, 2) := by decide +kernel
theorem dL_law_1257 : decode cL_law 1257 = .ok (.aload_n 2, 1) := by decide +kernel
theorem dL_law_1258 : decode cL_law 1258 = .ok (.aload_n 0, 1) := by decide +kernel
theorem dL_law_1259 : decode cL_law 1259 = .ok (.iload 4, 2) := by decide +kernel
theorem dL_law_1261 : decode cL_law 1261 = .ok (.iconst 1, 1) := by decide +kernel
theorem dL_law_1262 : decode cL_law 1262 = .ok (.iadd, 1) := by decide +kernel
theorem dL_law_1263 : decode cL_law 1263 = .ok (.iaload, 1) := by decide +kernel
theorem dL_law_1264 : decode cL_law 1264 = .ok (.aload_n 0, 1) := by decide +kernel
theorem dL_law_1265 : decode cL_law 1265 = .ok (.iload 4, 2) := by decide +kernel
theorem dL_law_1267 : decode cL_law 1267 = .ok (.iconst 2, 1) := by decide +kernel
theorem dL_law_1268 : decode cL_law 1268 = .ok (.iadd, 1) := by decide +kernel
theorem dL_law_1269 : decode cL_law 1269 = .ok (.iaload, 1) := by decide +kernel
theorem dL_law_1270 : decode cL_law 1270 = .ok (.invokevirtual 164, 3) := by decide +kernel
theorem dL_law_1273 : decode cL_law 1273 = .ok (.istore 6, 2) := by decide +kernel
theorem dL_law_1275 : decode cL_law 1275 = .ok (.aload_n 2, 1) := by decide +kernel
theorem dL_law_1276 : decode cL_law 1276 = .ok (.invokevirtual 94, 3) := by decide +kernel
theorem dL_law_1279 : decode cL_law 1279 = .ok (.iload 5, 2) := by decide +kernel
theorem dL_law_1281 : decode cL_law 1281 = .ok (.if_icmp .eq 5, 3) := by decide +kernel
theorem dL_law_1284 : decode cL_law 1284 = .ok (.iconst 0, 1) := by decide +kernel
theorem dL_law_1285 : decode cL_law 1285 = .ok (.ireturn, 1) := by decide +kernel
theorem dL_law_1286 : decode cL_law 1286 = .ok (.iload 5, 2) := by decide +kernel
theorem dL_law_1288 : decode cL_law 1288 = .ok (.ifCond .ne 16, 3) := by decide +kernel
theorem dL_law_1291 : decode cL_law 1291 = .ok (.aload_n 3, 1) := by decide +kernel
theorem dL_law_1292 : decode cL_law 1292 = .ok (.getfield 13, 3) := by decide +kernel
theorem dL_law_1295 : decode cL_law 1295 = .ok (.iload 6, 2) := by decide +kernel
theorem dL_law_1297 : decode cL_law 1297 = .ok (.i2l, 1) := by decide +kernel
theorem dL_law_1298 : decode cL_law 1298 = .ok (.lcmp, 1) := by decide +kernel
theorem dL_law_1299 : decode cL_law 1299 = .ok (.ifCond .eq 5, 3) := by decide +kernel
theorem dL_law_1302 : decode cL_law 1302 = .ok (.iconst 0, 1) := by decide +kernel
theorem dL_law_1303 : decode cL_law 1303 = .ok (.ireturn, 1) := by decide +kernel
theorem dL_law_1304 : decode cL_law 1304 = .ok (.goto 245, 3) := by decide +kernel
theorem dL_law_1307 : decode cL_law 1307 = .ok (.aload_n 1, 1) := by decide +kernel
theorem dL_law_1308 : decode cL_law 1308 = .ok (.aload_n 0, 1) := by decide +kernel
theorem dL_law_1309 : decode cL_law 1309 = .ok (.iload 4, 2) := by decide +kernel
theorem dL_law_1311 : decode cL_law 1311 = .ok (.iconst 1, 1) := by decide +kernel
theorem dL_law_1312 : decode cL_law 1312 = .ok (.iadd, 1) := by decide +kernel
theorem dL_law_1313 : decode cL_law 1313 = .ok (.iaload, 1) := by decide +kernel
theorem dL_law_1314 : decode cL_law 1314 = .ok (.aload_n 0, 1) := by decide +kernel
theorem dL_law_1315 : decode cL_law 1315 = .ok (.iload 4, 2) := by decide +kernel
theorem dL_law_1317 : decode cL_law 1317 = .ok (.iconst 2, 1) := by decide +kernel
theorem dL_law_1318 : decode cL_law 1318 = .ok (.iadd, 1) := by decide +kernel
theorem dL_law_1319 : decode cL_law 1319 = .ok (.iaload, 1) := by decide +kernel
theorem dL_law_1320 : decode cL_law 1320 = .ok (.aload_n 3, 1) := by decide +kernel
theorem dL_law_1321 : decode cL_law 1321 = .ok (.invokestatic 165, 3) := by decide +kernel
theorem dL_law_1324 : decode cL_law 1324 = .ok (.istore 5, 2) := by decide +kernel
theorem dL_law_1326 : decode cL_law 1326 = .ok (.aload_n 2, 1) := by decide +kernel
theorem dL_law_1327 : decode cL_law 1327 = .ok (.aload_n 0, 1) := by decide +kernel
theorem dL_law_1328 : decode cL_law 1328 = .ok (.iload 4, 2) := by decide +kernel
theorem dL_law_1330 : decode cL_law 1330 = .ok (.iconst 1, 1) := by decide +kernel
theorem dL_law_1331 : decode cL_law 1331 = .ok (.iadd, 1) := by decide +kernel
theorem dL_law_1332 : decode cL_law 1332 = .ok (.iaload, 1) := by decide +kernel
theorem dL_law_1333 : decode cL_law 1333 = .ok (.aload_n 0, 1) := by decide +kernel
theorem dL_law_1334 : decode cL_law 1334 = .ok (.iload 4, 2) := by decide +kernel
theorem dL_law_1336 : decode cL_law 1336 = .ok (.iconst 2, 1) := by decide +kernel
theorem dL_law_1337 : decode cL_law 1337 = .ok (.iadd, 1) := by decide +kernel
theorem dL_law_1338 : decode cL_law 1338 = .ok (.iaload, 1) := by decide +kernel
theorem dL_law_1339 : decode cL_law 1339 = .ok (.invokevirtual 167, 3) := by decide +kernel
theorem dL_law_1342 : decode cL_law 1342 = .ok (.dstore 6, 2) := by decide +kernel
theorem dL_law_1344 : decode cL_law 1344 = .ok (.aload_n 2, 1) := by decide +kernel
theorem dL_law_1345 : decode cL_law 1345 = .ok (.invokevirtual 94, 3) := by decide +kernel
theorem dL_law_1348 : decode cL_law 1348 = .ok (.iload 5, 2) := by decide +kernel
theorem dL_law_1350 : decode cL_law 1350 = .ok (.if_icmp .eq 5, 3) := by decide +kernel
theorem dL_law_1353 : decode cL_law 1353 = .ok (.iconst 0, 1) := by decide +kernel
theorem dL_law_1354 : decode cL_law 1354 = .ok (.ireturn, 1) := by decide +kernel
theorem dL_law_1355 : decode cL_law 1355 = .ok (.iload 5, 2) := by decide +kernel
theorem dL_law_1357 : decode cL_law 1357 = .ok (.ifCond .ne 35, 3) := by decide +kernel
theorem dL_law_1360 : decode cL_law 1360 = .ok (.aload_n 3, 1) := by decide +kernel
theorem dL_law_1361 : decode cL_law 1361 = .ok (.getfield 73, 3) := by decide +kernel
theorem dL_law_1364 : decode cL_law 1364 = .ok (.dload 6, 2) := by decide +kernel
theorem dL_law_1366 : decode cL_law 1366 = .ok (.dcmp .l, 1) := by decide +kernel
theorem dL_law_1367 : decode cL_law 1367 = .ok (.ifCond .eq 25, 3) := by decide +kernel
theorem dL_law_1370 : decode cL_law 1370 = .ok (.aload_n 3, 1) := by decide +kernel
theorem dL_law_1371 : decode cL_law 1371 = .ok (.getfield 73, 3) := by decide +kernel
theorem dL_law_1374 : decode cL_law 1374 = .ok (.aload_n 3, 1) := by decide +kernel
theorem dL_law_1375 : decode cL_law 1375 = .ok (.getfield 73, 3) := by decide +kernel
theorem dL_law_1378 : decode cL_law 1378 = .ok (.dcmp .l, 1) := by decide +kernel
theorem dL_law_1379 : decode cL_law 1379 = .ok (.ifCond .eq 11, 3) := by decide +kernel
theorem dL_law_1382 : decode cL_law 1382 = .ok (.dload 6, 2) := by decide +kernel
theorem dL_law_1384 : decode cL_law 1384 = .ok (.dload 6, 2) := by decide +kernel
theorem dL_law_1386 : decode cL_law 1386 = .ok (.dcmp .l, 1) := by decide +kernel
theorem dL_law_1387 : decode cL_law 1387 = .ok (.ifCond .ne 5, 3) := by decide +kernel
theorem dL_law_1390 : decode cL_law 1390 = .ok (.iconst 0, 1) := by decide +kernel
theorem dL_law_1391 : decode cL_law 1391 = .ok (.ireturn, 1) := by decide +kernel
theorem dL_law_1392 : decode cL_law 1392 = .ok (.goto 157, 3) := by decide +kernel
theorem dL_law_1395 : decode cL_law 1395 = .ok (.aload_n 1, 1) := by decide +kernel
theorem dL_law_1396 : decode cL_law 1396 = .ok (.aload_n 0, 1) := by decide +kernel
theorem dL_law_1397 : decode cL_law 1397 = .ok (.iload 4, 2) := by decide +kernel
theorem dL_law_1399 : decode cL_law 1399 = .ok (.iconst 1, 1) := by decide +kernel
theorem dL_law_1400 : decode cL_law 1400 = .ok (.iadd, 1) := by decide +kernel
theorem dL_law_1401 : decode cL_law 1401 = .ok (.iaload, 1) := by decide +kernel
theorem dL_law_1402 : decode cL_law 1402 = .ok (.aload_n 3, 1) := by decide +kernel
theorem dL_law_1403 : decode cL_law 1403 = .ok (.invokestatic 168, 3) := by decide +kernel
theorem dL_law_1406 : decode cL_law 1406 = .ok (.istore 5, 2) := by decide +kernel
theorem dL_law_1408 : decode cL_law 1408 = .ok (.aload_n 2, 1) := by decide +kernel
theorem dL_law_1409 : decode cL_law 1409 = .ok (.aload_n 0, 1) := by decide +kernel
theorem dL_law_1410 : decode cL_law 1410 = .ok (.iload 4, 2) := by decide +kernel
theorem dL_law_1412 : decode cL_law 1412 = .ok (.iconst 1, 1) := by decide +kernel
theorem dL_law_1413 : decode cL_law 1413 = .ok (.iadd, 1) := by decide +kernel
theorem dL_law_1414 : decode cL_law 1414 = .ok (.iaload, 1) := by decide +kernel
theorem dL_law_1415 : decode cL_law 1415 = .ok (.invokevirtual 170, 3) := by decide +kernel
theorem dL_law_1418 : decode cL_law 1418 = .ok (.istore 6, 2) := by decide +kernel
theorem dL_law_1420 : decode cL_law 1420 = .ok (.aload_n 2, 1) := by decide +kernel
theorem dL_law_1421 : decode cL_law 1421 = .ok (.invokevirtual 94, 3) := by decide +kernel
theorem dL_law_1424 : decode cL_law 1424 = .ok (.iload 5, 2) := by decide +kernel
theorem dL_law_1426 : decode cL_law 1426 = .ok (.if_icmp .eq 5, 3) := by decide +kernel
theorem dL_law_1429 : decode cL_law 1429 = .ok (.iconst 0, 1) := by decide +kernel
theorem dL_law_1430 : decode cL_law 1430 = .ok (.ireturn, 1) := by decide +kernel
theorem dL_law_1431 : decode cL_law 1431 = .ok (.iload 5, 2) := by decide +kernel
theorem dL_law_1433 : decode cL_law 1433 = .ok (.ifCond .ne 16, 3) := by decide +kernel
theorem dL_law_1436 : decode cL_law 1436 = .ok (.aload_n 3, 1) := by decide +kernel
theorem dL_law_1437 : decode cL_law 1437 = .ok (.getfield 13, 3) := by decide +kernel
theorem dL_law_1440 : decode cL_law 1440 = .ok (.iload 6, 2) := by decide +kernel
theorem dL_law_1442 : decode cL_law 1442 = .ok (.i2l, 1) := by decide +kernel
theorem dL_law_1443 : decode cL_law 1443 = .ok (.lcmp, 1) := by decide +kernel
theorem dL_law_1444 : decode cL_law 1444 = .ok (.ifCond .eq 5, 3) := by decide +kernel
theorem dL_law_1447 : decode cL_law 1447 = .ok (.iconst 0, 1) := by decide +kernel
theorem dL_law_1448 : decode cL_law 1448 = .ok (.ireturn, 1) := by decide +kernel
theorem dL_law_1449 : decode cL_law 1449 = .ok (.goto 100, 3) := by decide +kernel
theorem dL_law_1452 : decode cL_law 1452 = .ok (.aload_n 1, 1) := by decide +kernel
theorem dL_law_1453 : decode cL_law 1453 = .ok (.aload_n 0, 1) := by decide +kernel
theorem dL_law_1454 : decode cL_law 1454 = .ok (.iload 4, 2) := by decide +kernel
theorem dL_law_1456 : decode cL_law 1456 = .ok (.iconst 1, 1) := by decide +kernel
theorem dL_law_1457 : decode cL_law 1457 = .ok (.iadd, 1) := by decide +kernel
theorem dL_law_1458 : decode cL_law 1458 = .ok (.iaload, 1) := by decide +kernel
theorem dL_law_1459 : decode cL_law 1459 = .ok (.aload_n 3, 1) := by decide +kernel
theorem dL_law_1460 : decode cL_law 1460 = .ok (.invokestatic 171, 3) := by decide +kernel
theorem dL_law_1463 : decode cL_law 1463 = .ok (.istore 5, 2) := by decide +kernel
theorem dL_law_1465 : decode cL_law 1465 = .ok (.aload_n 2, 1) := by decide +kernel
theorem dL_law_1466 : decode cL_law 1466 = .ok (.aload_n 0, 1) := by decide +kernel
theorem dL_law_1467 : decode cL_law 1467 = .ok (.iload 4, 2) := by decide +kernel
theorem dL_law_1469 : decode cL_law 1469 = .ok (.iconst 1, 1) := by decide +kernel
theorem dL_law_1470 : decode cL_law 1470 = .ok (.iadd, 1) := by decide +kernel
theorem dL_law_1471 : decode cL_law 1471 = .ok (.iaload, 1) := by decide +kernel
theorem dL_law_1472 : decode cL_law 1472 = .ok (.invokevirtual 173, 3) := by decide +kernel
theorem dL_law_1475 : decode cL_law 1475 = .ok (.istore 6, 2) := by decide +kernel
theorem dL_law_1477 : decode cL_law 1477 = .ok (.aload_n 2, 1) := by decide +kernel
theorem dL_law_1478 : decode cL_law 1478 = .ok (.invokevirtual 94, 3) := by decide +kernel
theorem dL_law_1481 : decode cL_law 1481 = .ok (.iload 5, 2) := by decide +kernel
theorem dL_law_1483 : decode cL_law 1483 = .ok (.if_icmp .eq 5, 3) := by decide +kernel
theorem dL_law_1486 : decode cL_law 1486 = .ok (.iconst 0, 1) := by decide +kernel
theorem dL_law_1487 : decode cL_law 1487 = .ok (.ireturn, 1) := by decide +kernel
theorem dL_law_1488 : decode cL_law 1488 = .ok (.iload 5, 2) := by decide +kernel
theorem dL_law_1490 : decode cL_law 1490 = .ok (.ifCond .ne 16, 3) := by decide +kernel
theorem dL_law_1493 : decode cL_law 1493 = .ok (.aload_n 3, 1) := by decide +kernel
theorem dL_law_1494 : decode cL_law 1494 = .ok (.getfield 13, 3) := by decide +kernel
theorem dL_law_1497 : decode cL_law 1497 = .ok (.iload 6, 2) := by decide +kernel
theorem dL_law_1499 : decode cL_law 1499 = .ok (.i2l, 1) := by decide +kernel
theorem dL_law_1500 : decode cL_law 1500 = .ok (.lcmp, 1) := by decide +kernel
theorem dL_law_1501 : decode cL_law 1501 = .ok (.ifCond .eq 5, 3) := by decide +kernel
theorem dL_law_1504 : decode cL_law 1504 = .ok (.iconst 0, 1) := by decide +kernel
theorem dL_law_1505 : decode cL_law 1505 = .ok (.ireturn, 1) := by decide +kernel
theorem dL_law_1506 : decode cL_law 1506 = .ok (.goto 43, 3) := by decide +kernel
theorem dL_law_1509 : decode cL_law 1509 = .ok (.aload_n 1, 1) := by decide +kernel
theorem dL_law_1510 : decode cL_law 1510 = .ok (.invokevirtual 174, 3) := by decide +kernel
theorem dL_law_1513 : decode cL_law 1513 = .ok (.aload_n 2, 1) := by decide +kernel
theorem dL_law_1514 : decode cL_law 1514 = .ok (.invokevirtual 177, 3) := by decide +kernel
theorem dL_law_1517 : decode cL_law 1517 = .ok (.if_icmp .eq 32, 3) := by decide +kernel
theorem dL_law_1520 : decode cL_law 1520 = .ok (.iconst 0, 1) := by decide +kernel
theorem dL_law_1521 : decode cL_law 1521 = .ok (.ireturn, 1) := by decide +kernel
theorem dL_law_1522 : decode cL_law 1522 = .ok (.aload_n 1, 1) := by decide +kernel
theorem dL_law_1523 : decode cL_law 1523 = .ok (.invokevirtual 178, 3) := by decide +kernel
theorem dL_law_1526 : decode cL_law 1526 = .ok (.aload_n 2, 1) := by decide +kernel
theorem dL_law_1527 : decode cL_law 1527 = .ok (.invokevirtual 182, 3) := by decide +kernel
theorem dL_law_1530 : decode cL_law 1530 = .ok (.if_icmp .eq 19, 3) := by decide +kernel
theorem dL_law_1533 : decode cL_law 1533 = .ok (.iconst 0, 1) := by decide +kernel
theorem dL_law_1534 : decode cL_law 1534 = .ok (.ireturn, 1) := by decide +kernel
theorem dL_law_1535 : decode cL_law 1535 = .ok (.aload_n 1, 1) := by decide +kernel
theorem dL_law_1536 : decode cL_law 1536 = .ok (.invokevirtual 183, 3) := by decide +kernel
theorem dL_law_1539 : decode cL_law 1539 = .ok (.aload_n 2, 1) := by decide +kernel
theorem dL_law_1540 : decode cL_law 1540 = .ok (.invokevirtual 187, 3) := by decide +kernel
theorem dL_law_1543 : decode cL_law 1543 = .ok (.lcmp, 1) := by decide +kernel
theorem dL_law_1544 : decode cL_law 1544 = .ok (.ifCond .eq 5, 3) := by decide +kernel
theorem dL_law_1547 : decode cL_law 1547 = .ok (.iconst 0, 1) := by decide +kernel
theorem dL_law_1548 : decode cL_law 1548 = .ok (.ireturn, 1) := by decide +kernel
theorem dL_law_1549 : decode cL_law 1549 = .ok (.iinc 4 5, 3) := by decide +kernel
theorem dL_law_1552 : decode cL_law 1552 = .ok (.goto (-1525), 3) := by decide +kernel
theorem dL_law_1555 : decode cL_law 1555 = .ok (.iconst 1, 1) := by decide +kernel
theorem dL_law_1556 : decode cL_law 1556 = .ok (.ireturn, 1) := by decide +kernel
abbrev vwCl : List vw_C := [(RJ0, TJ0, 4), (RJ4, TJ4, 4), (RJx35411, TJx35411, 4), (RJx4a65c, TJx4a65c, 3), (RX0, TX0, 5), (RX1, TX1, 2), (RX2, TX2, 3), (RX3, TX3, 9), (RX4, TX4, 16), (RX5, TX5, 1), (RX6, TX6, 6), (RX7, TX7, 7), (RX8, TX8, 5), (RX9, TX9, 2), (RX10, TX10, 18), (RX11, TX11, 12)]
