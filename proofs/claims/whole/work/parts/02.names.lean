def RX0 : String := "RekeyPeers$Answer"
def TX0 : u_T := fun k => match k with
  | 0 => ("RekeyPeers$Packet", "number", "I", true)
  | 1 => ("RekeyPeers$Packet", "kind", "I", true)
  | 2 => ("RekeyPeers$Packet", "mark", "I", true)
  | 3 => ("RekeyPeers$Packet", "nonce", "I", true)
  | 4 => ("RekeyPeers$Answer", "no", "Z", true)
  | _ => ("RekeyPeers$Answer", "deal", "LRekeyPeers$Deal;", true)
def tyX0 : Nat → FieldType := fun k => match k with
  | 0 => .int
  | 1 => .int
  | 2 => .int
  | 3 => .int
  | 4 => .boolean
  | _ => .object "RekeyPeers$Deal"
theorem nmX0 : ∀ a, a < 6 → ∀ b, b < 6 → a ≠ b → (TX0 a).2.1 ≠ (TX0 b).2.1 := by decide +kernel
theorem tyX0_ok : ∀ k, k < 6 → parseFieldDescriptor (TX0 k).2.2.1 = some (tyX0 k) := by decide +kernel
abbrev cX0_init : ByteArray := prog_2_method_1_code
def yX0_init : MethodName := ⟨RX0, "<init>", "(LRekeyPeers$Request;ZIILRekeyPeers$Deal;)V"⟩
abbrev cX0_isRequest : ByteArray := prog_2_method_2_code
def yX0_isRequest : MethodName := ⟨RX0, "isRequest", "()Z"⟩
abbrev cX0_isNo : ByteArray := prog_2_method_3_code
def yX0_isNo : MethodName := ⟨RX0, "isNo", "()Z"⟩
abbrev cX0_subjectMark : ByteArray := prog_2_method_4_code
def yX0_subjectMark : MethodName := ⟨RX0, "subjectMark", "()I"⟩
def RX1 : String := "RekeyPeers$Child"
def TX1 : u_T := fun k => match k with
  | 0 => ("RekeyPeers$Child", "mark", "I", true)
  | 1 => ("RekeyPeers$Child", "otherMark", "I", true)
  | 2 => ("RekeyPeers$Child", "deal", "LRekeyPeers$Deal;", true)
  | 3 => ("RekeyPeers$Child", "renews", "I", true)
  | 4 => ("RekeyPeers$Child", "askedHere", "Z", true)
  | _ => ("RekeyPeers$Child", "worth", "I", true)
def tyX1 : Nat → FieldType := fun k => match k with
  | 0 => .int
  | 1 => .int
  | 2 => .object "RekeyPeers$Deal"
  | 3 => .int
  | 4 => .boolean
  | _ => .int
theorem nmX1 : ∀ a, a < 6 → ∀ b, b < 6 → a ≠ b → (TX1 a).2.1 ≠ (TX1 b).2.1 := by decide +kernel
theorem tyX1_ok : ∀ k, k < 6 → parseFieldDescriptor (TX1 k).2.2.1 = some (tyX1 k) := by decide +kernel
abbrev cX1_init : ByteArray := prog_3_method_1_code
def yX1_init : MethodName := ⟨RX1, "<init>", "(IILRekeyPeers$Deal;IZI)V"⟩
abbrev cX1_fact : ByteArray := prog_3_method_2_code
def yX1_fact : MethodName := ⟨RX1, "fact", "(I)I"⟩
def RX2 : String := "RekeyPeers$Deal"
def TX2 : u_T := fun k => match k with
  | 0 => ("RekeyPeers$Deal", "suite", "I", true)
  | 1 => ("RekeyPeers$Deal", "low", "I", true)
  | _ => ("RekeyPeers$Deal", "high", "I", true)
def tyX2 : Nat → FieldType := fun k => match k with
  | 0 => .int
  | 1 => .int
  | _ => .int
theorem nmX2 : ∀ a, a < 3 → ∀ b, b < 3 → a ≠ b → (TX2 a).2.1 ≠ (TX2 b).2.1 := by decide +kernel
theorem tyX2_ok : ∀ k, k < 3 → parseFieldDescriptor (TX2 k).2.2.1 = some (tyX2 k) := by decide +kernel
abbrev cX2_init : ByteArray := prog_4_method_1_code
def yX2_init : MethodName := ⟨RX2, "<init>", "(III)V"⟩
abbrev cX2_isLike : ByteArray := prog_4_method_2_code
def yX2_isLike : MethodName := ⟨RX2, "isLike", "(LRekeyPeers$Deal;)Z"⟩
def RX3 : String := "RekeyPeers$Flight"
def TX3 : u_T := fun k => match k with
  | _ => ("RekeyPeers$Flight", "packets", "Ljava/util/List;", true)
def tyX3 : Nat → FieldType := fun k => match k with
  | _ => .object "java/util/List"
theorem nmX3 : ∀ a, a < 1 → ∀ b, b < 1 → a ≠ b → (TX3 a).2.1 ≠ (TX3 b).2.1 := by decide +kernel
theorem tyX3_ok : ∀ k, k < 1 → parseFieldDescriptor (TX3 k).2.2.1 = some (tyX3 k) := by decide +kernel
abbrev cX3_init : ByteArray := prog_5_method_1_code
def yX3_init : MethodName := ⟨RX3, "<init>", "()V"⟩
abbrev cX3_launch : ByteArray := prog_5_method_2_code
def yX3_launch : MethodName := ⟨RX3, "launch", "(LRekeyPeers$Packet;)V"⟩
def RX4 : String := "RekeyPeers$Offer"
def TX4 : u_T := fun k => match k with
  | 0 => ("RekeyPeers$Offer", "suites", "[I", true)
  | 1 => ("RekeyPeers$Offer", "low", "I", true)
  | _ => ("RekeyPeers$Offer", "high", "I", true)
def tyX4 : Nat → FieldType := fun k => match k with
  | 0 => .array .int
  | 1 => .int
  | _ => .int
theorem nmX4 : ∀ a, a < 3 → ∀ b, b < 3 → a ≠ b → (TX4 a).2.1 ≠ (TX4 b).2.1 := by decide +kernel
theorem tyX4_ok : ∀ k, k < 3 → parseFieldDescriptor (TX4 k).2.2.1 = some (tyX4 k) := by decide +kernel
abbrev cX4_init : ByteArray := prog_6_method_1_code
def yX4_init : MethodName := ⟨RX4, "<init>", "([III)V"⟩
def RX5 : String := "RekeyPeers$Packet"
def TX5 : u_T := fun k => match k with
  | _ => ("", "", "", false)
def tyX5 : Nat → FieldType := fun k => match k with
  | _ => .int
theorem nmX5 : ∀ a, a < 0 → ∀ b, b < 0 → a ≠ b → (TX5 a).2.1 ≠ (TX5 b).2.1 := by decide +kernel
theorem tyX5_ok : ∀ k, k < 0 → parseFieldDescriptor (TX5 k).2.2.1 = some (tyX5 k) := by decide +kernel
abbrev cX5_init : ByteArray := prog_7_method_1_code
def yX5_init : MethodName := ⟨RX5, "<init>", "(IIII)V"⟩
abbrev cX5_fact : ByteArray := prog_7_method_5_code
def yX5_fact : MethodName := ⟨RX5, "fact", "(I)I"⟩
def RX6 : String := "RekeyPeers$Peer"
def TX6 : u_T := fun k => match k with
  | 0 => ("RekeyPeers$Peer", "id", "I", true)
  | 1 => ("RekeyPeers$Peer", "outgoing", "LRekeyPeers$Flight;", true)
  | 2 => ("RekeyPeers$Peer", "suites", "[I", true)
  | 3 => ("RekeyPeers$Peer", "suiteCount", "I", false)
  | 4 => ("RekeyPeers$Peer", "low", "I", false)
  | 5 => ("RekeyPeers$Peer", "high", "I", false)
  | 6 => ("RekeyPeers$Peer", "nonceSource", "I", false)
  | 7 => ("RekeyPeers$Peer", "nextMark", "I", false)
  | 8 => ("RekeyPeers$Peer", "offspring", "Ljava/util/List;", true)
  | 9 => ("RekeyPeers$Peer", "wishes", "Ljava/util/List;", true)
  | 10 => ("RekeyPeers$Peer", "out", "LRekeyPeers$Request;", false)
  | 11 => ("RekeyPeers$Peer", "timesSent", "I", false)
  | 12 => ("RekeyPeers$Peer", "wholeWait", "I", false)
  | 13 => ("RekeyPeers$Peer", "ticksLeft", "I", false)
  | 14 => ("RekeyPeers$Peer", "nextRequest", "I", false)
  | 15 => ("RekeyPeers$Peer", "nextToAnswer", "I", false)
  | 16 => ("RekeyPeers$Peer", "latestAnswer", "LRekeyPeers$Answer;", false)
  | _ => ("RekeyPeers$Peer", "dead", "Z", false)
def tyX6 : Nat → FieldType := fun k => match k with
  | 0 => .int
  | 1 => .object "RekeyPeers$Flight"
  | 2 => .array .int
  | 3 => .int
  | 4 => .int
  | 5 => .int
  | 6 => .int
  | 7 => .int
  | 8 => .object "java/util/List"
  | 9 => .object "java/util/List"
  | 10 => .object "RekeyPeers$Request"
  | 11 => .int
  | 12 => .int
  | 13 => .int
  | 14 => .int
  | 15 => .int
  | 16 => .object "RekeyPeers$Answer"
  | _ => .boolean
theorem nmX6 : ∀ a, a < 18 → ∀ b, b < 18 → a ≠ b → (TX6 a).2.1 ≠ (TX6 b).2.1 := by decide +kernel
theorem tyX6_ok : ∀ k, k < 18 → parseFieldDescriptor (TX6 k).2.2.1 = some (tyX6 k) := by decide +kernel
abbrev cX6_init : ByteArray := prog_8_method_1_code
def yX6_init : MethodName := ⟨RX6, "<init>", "(ILRekeyPeers$Flight;)V"⟩
abbrev cX6_startAfresh : ByteArray := prog_8_method_2_code
def yX6_startAfresh : MethodName := ⟨RX6, "startAfresh", "()V"⟩
abbrev cX6_fact : ByteArray := prog_8_method_3_code
def yX6_fact : MethodName := ⟨RX6, "fact", "(I)I"⟩
abbrev cX6_hasSuite : ByteArray := prog_8_method_4_code
def yX6_hasSuite : MethodName := ⟨RX6, "hasSuite", "(I)Z"⟩
abbrev cX6_addSuite : ByteArray := prog_8_method_5_code
def yX6_addSuite : MethodName := ⟨RX6, "addSuite", "(I)V"⟩
abbrev cX6_sharesChild : ByteArray := prog_8_method_6_code
def yX6_sharesChild : MethodName := ⟨RX6, "sharesChild", "(LRekeyPeers$Child;)Z"⟩
abbrev cX6_takeWishesTillRequest : ByteArray := prog_8_method_7_code
def yX6_takeWishesTillRequest : MethodName := ⟨RX6, "takeWishesTillRequest", "()V"⟩
abbrev cX6_requestFor : ByteArray := prog_8_method_8_code
def yX6_requestFor : MethodName := ⟨RX6, "requestFor", "(LRekeyPeers$Wish;)LRekeyPeers$Request;"⟩
abbrev cX6_sendFirst : ByteArray := prog_8_method_9_code
def yX6_sendFirst : MethodName := ⟨RX6, "sendFirst", "(LRekeyPeers$Request;)V"⟩
abbrev cX6_waitOneTick : ByteArray := prog_8_method_10_code
def yX6_waitOneTick : MethodName := ⟨RX6, "waitOneTick", "()I"⟩
abbrev cX6_receive : ByteArray := prog_8_method_11_code
def yX6_receive : MethodName := ⟨RX6, "receive", "(LRekeyPeers$Packet;)I"⟩
abbrev cX6_receiveRequest : ByteArray := prog_8_method_12_code
def yX6_receiveRequest : MethodName := ⟨RX6, "receiveRequest", "(LRekeyPeers$Request;)I"⟩
abbrev cX6_answerToOpen : ByteArray := prog_8_method_13_code
def yX6_answerToOpen : MethodName := ⟨RX6, "answerToOpen", "(LRekeyPeers$Request;)LRekeyPeers$Answer;"⟩
abbrev cX6_answerToRenew : ByteArray := prog_8_method_14_code
def yX6_answerToRenew : MethodName := ⟨RX6, "answerToRenew", "(LRekeyPeers$Request;)LRekeyPeers$Answer;"⟩
abbrev cX6_answerToDelete : ByteArray := prog_8_method_15_code
def yX6_answerToDelete : MethodName := ⟨RX6, "answerToDelete", "(LRekeyPeers$Request;)LRekeyPeers$Answer;"⟩
abbrev cX6_no : ByteArray := prog_8_method_16_code
def yX6_no : MethodName := ⟨RX6, "no", "(LRekeyPeers$Request;)LRekeyPeers$Answer;"⟩
abbrev cX6_dealOn : ByteArray := prog_8_method_17_code
def yX6_dealOn : MethodName := ⟨RX6, "dealOn", "(LRekeyPeers$Offer;)LRekeyPeers$Deal;"⟩
abbrev cX6_receiveAnswer : ByteArray := prog_8_method_18_code
def yX6_receiveAnswer : MethodName := ⟨RX6, "receiveAnswer", "(LRekeyPeers$Answer;)I"⟩
abbrev cX6_settle : ByteArray := prog_8_method_19_code
def yX6_settle : MethodName := ⟨RX6, "settle", "(LRekeyPeers$Request;LRekeyPeers$Answer;)V"⟩
abbrev cX6_settleRenew : ByteArray := prog_8_method_20_code
def yX6_settleRenew : MethodName := ⟨RX6, "settleRenew", "(LRekeyPeers$Request;LRekeyPeers$Answer;LRekeyPeers$Child;)V"⟩
abbrev cX6_losesAgainst : ByteArray := prog_8_method_21_code
def yX6_losesAgainst : MethodName := ⟨RX6, "losesAgainst", "(LRekeyPeers$Child;LRekeyPeers$Child;)Z"⟩
abbrev cX6_newMark : ByteArray := prog_8_method_22_code
def yX6_newMark : MethodName := ⟨RX6, "newMark", "()I"⟩
abbrev cX6_newNonce : ByteArray := prog_8_method_23_code
def yX6_newNonce : MethodName := ⟨RX6, "newNonce", "()I"⟩
abbrev cX6_isFull : ByteArray := prog_8_method_24_code
def yX6_isFull : MethodName := ⟨RX6, "isFull", "()Z"⟩
abbrev cX6_keep : ByteArray := prog_8_method_25_code
def yX6_keep : MethodName := ⟨RX6, "keep", "(LRekeyPeers$Child;)V"⟩
abbrev cX6_drop : ByteArray := prog_8_method_26_code
def yX6_drop : MethodName := ⟨RX6, "drop", "(I)V"⟩
abbrev cX6_childOfMark : ByteArray := prog_8_method_27_code
def yX6_childOfMark : MethodName := ⟨RX6, "childOfMark", "(I)LRekeyPeers$Child;"⟩
abbrev cX6_childOfOtherMark : ByteArray := prog_8_method_28_code
def yX6_childOfOtherMark : MethodName := ⟨RX6, "childOfOtherMark", "(I)LRekeyPeers$Child;"⟩
abbrev cX6_renewalOf : ByteArray := prog_8_method_29_code
def yX6_renewalOf : MethodName := ⟨RX6, "renewalOf", "(IZ)LRekeyPeers$Child;"⟩
def RX7 : String := "RekeyPeers$Request"
def TX7 : u_T := fun k => match k with
  | 0 => ("RekeyPeers$Packet", "number", "I", true)
  | 1 => ("RekeyPeers$Packet", "kind", "I", true)
  | 2 => ("RekeyPeers$Packet", "mark", "I", true)
  | 3 => ("RekeyPeers$Packet", "nonce", "I", true)
  | 4 => ("RekeyPeers$Request", "subject", "LRekeyPeers$Child;", true)
  | _ => ("RekeyPeers$Request", "offer", "LRekeyPeers$Offer;", true)
def tyX7 : Nat → FieldType := fun k => match k with
  | 0 => .int
  | 1 => .int
  | 2 => .int
  | 3 => .int
  | 4 => .object "RekeyPeers$Child"
  | _ => .object "RekeyPeers$Offer"
theorem nmX7 : ∀ a, a < 6 → ∀ b, b < 6 → a ≠ b → (TX7 a).2.1 ≠ (TX7 b).2.1 := by decide +kernel
theorem tyX7_ok : ∀ k, k < 6 → parseFieldDescriptor (TX7 k).2.2.1 = some (tyX7 k) := by decide +kernel
abbrev cX7_init : ByteArray := prog_9_method_1_code
def yX7_init : MethodName := ⟨RX7, "<init>", "(IIIILRekeyPeers$Child;LRekeyPeers$Offer;)V"⟩
abbrev cX7_isRequest : ByteArray := prog_9_method_2_code
def yX7_isRequest : MethodName := ⟨RX7, "isRequest", "()Z"⟩
abbrev cX7_isNo : ByteArray := prog_9_method_3_code
def yX7_isNo : MethodName := ⟨RX7, "isNo", "()Z"⟩
abbrev cX7_subjectMark : ByteArray := prog_9_method_4_code
def yX7_subjectMark : MethodName := ⟨RX7, "subjectMark", "()I"⟩
def RX8 : String := "RekeyPeers$Wish"
def TX8 : u_T := fun k => match k with
  | 0 => ("RekeyPeers$Wish", "kind", "I", true)
  | _ => ("RekeyPeers$Wish", "mark", "I", true)
def tyX8 : Nat → FieldType := fun k => match k with
  | 0 => .int
  | _ => .int
theorem nmX8 : ∀ a, a < 2 → ∀ b, b < 2 → a ≠ b → (TX8 a).2.1 ≠ (TX8 b).2.1 := by decide +kernel
theorem tyX8_ok : ∀ k, k < 2 → parseFieldDescriptor (TX8 k).2.2.1 = some (tyX8 k) := by decide +kernel
abbrev cX8_init : ByteArray := prog_10_method_1_code
def yX8_init : MethodName := ⟨RX8, "<init>", "(II)V"⟩
def RX9 : String := "RekeyPeers"
def TX9 : u_T := fun k => match k with
  | 0 => ("RekeyPeers", "toZero", "LRekeyPeers$Flight;", true)
  | 1 => ("RekeyPeers", "toOne", "LRekeyPeers$Flight;", true)
  | 2 => ("RekeyPeers", "zero", "LRekeyPeers$Peer;", true)
  | _ => ("RekeyPeers", "one", "LRekeyPeers$Peer;", true)
def tyX9 : Nat → FieldType := fun k => match k with
  | 0 => .object "RekeyPeers$Flight"
  | 1 => .object "RekeyPeers$Flight"
  | 2 => .object "RekeyPeers$Peer"
  | _ => .object "RekeyPeers$Peer"
theorem nmX9 : ∀ a, a < 4 → ∀ b, b < 4 → a ≠ b → (TX9 a).2.1 ≠ (TX9 b).2.1 := by decide +kernel
theorem tyX9_ok : ∀ k, k < 4 → parseFieldDescriptor (TX9 k).2.2.1 = some (tyX9 k) := by decide +kernel
abbrev cX9_init : ByteArray := prog_1_method_1_code
def yX9_init : MethodName := ⟨RX9, "<init>", "()V"⟩
abbrev cX9_suite : ByteArray := prog_1_method_2_code
def yX9_suite : MethodName := ⟨RX9, "suite", "(II)I"⟩
abbrev cX9_range : ByteArray := prog_1_method_3_code
def yX9_range : MethodName := ⟨RX9, "range", "(III)I"⟩
abbrev cX9_seed : ByteArray := prog_1_method_4_code
def yX9_seed : MethodName := ⟨RX9, "seed", "(II)V"⟩
abbrev cX9_wish : ByteArray := prog_1_method_5_code
def yX9_wish : MethodName := ⟨RX9, "wish", "(III)I"⟩
abbrev cX9_deliver : ByteArray := prog_1_method_6_code
def yX9_deliver : MethodName := ⟨RX9, "deliver", "(II)I"⟩
abbrev cX9_lose : ByteArray := prog_1_method_7_code
def yX9_lose : MethodName := ⟨RX9, "lose", "(II)I"⟩
abbrev cX9_twice : ByteArray := prog_1_method_8_code
def yX9_twice : MethodName := ⟨RX9, "twice", "(II)I"⟩
abbrev cX9_tick : ByteArray := prog_1_method_9_code
def yX9_tick : MethodName := ⟨RX9, "tick", "(I)I"⟩
abbrev cX9_children : ByteArray := prog_1_method_10_code
def yX9_children : MethodName := ⟨RX9, "children", "(I)I"⟩
abbrev cX9_child : ByteArray := prog_1_method_11_code
def yX9_child : MethodName := ⟨RX9, "child", "(III)I"⟩
abbrev cX9_flying : ByteArray := prog_1_method_12_code
def yX9_flying : MethodName := ⟨RX9, "flying", "(I)I"⟩
abbrev cX9_packet : ByteArray := prog_1_method_13_code
def yX9_packet : MethodName := ⟨RX9, "packet", "(III)I"⟩
abbrev cX9_told : ByteArray := prog_1_method_14_code
def yX9_told : MethodName := ⟨RX9, "told", "(II)I"⟩
abbrev cX9_agreed : ByteArray := prog_1_method_15_code
def yX9_agreed : MethodName := ⟨RX9, "agreed", "()I"⟩
abbrev cX9_clear : ByteArray := prog_1_method_16_code
def yX9_clear : MethodName := ⟨RX9, "clear", "()V"⟩
abbrev cX9_takeWishes : ByteArray := prog_1_method_17_code
def yX9_takeWishes : MethodName := ⟨RX9, "takeWishes", "()V"⟩
abbrev cX9_peerAt : ByteArray := prog_1_method_18_code
def yX9_peerAt : MethodName := ⟨RX9, "peerAt", "(I)LRekeyPeers$Peer;"⟩
abbrev cX9_flightTo : ByteArray := prog_1_method_19_code
def yX9_flightTo : MethodName := ⟨RX9, "flightTo", "(I)LRekeyPeers$Flight;"⟩
abbrev cX9_childAt : ByteArray := prog_1_method_20_code
def yX9_childAt : MethodName := ⟨RX9, "childAt", "(LRekeyPeers$Peer;I)LRekeyPeers$Child;"⟩
abbrev cX9_packetAt : ByteArray := prog_1_method_21_code
def yX9_packetAt : MethodName := ⟨RX9, "packetAt", "(LRekeyPeers$Flight;I)LRekeyPeers$Packet;"⟩
abbrev cX9_refuseOutside : ByteArray := prog_1_method_22_code
def yX9_refuseOutside : MethodName := ⟨RX9, "refuseOutside", "(II)V"⟩
def RX10 : String := "RekeyPeersModel"
def TX10 : u_T := fun k => match k with
  | 0 => ("RekeyPeersModel", "thrown", "I", false)
  | 1 => ("RekeyPeersModel", "suiteCounts", "[I", true)
  | 2 => ("RekeyPeersModel", "suites", "[I", true)
  | 3 => ("RekeyPeersModel", "lows", "[I", true)
  | 4 => ("RekeyPeersModel", "highs", "[I", true)
  | 5 => ("RekeyPeersModel", "nonces", "[I", true)
  | 6 => ("RekeyPeersModel", "marks", "[I", true)
  | 7 => ("RekeyPeersModel", "childCounts", "[I", true)
  | 8 => ("RekeyPeersModel", "kids", "[I", true)
  | 9 => ("RekeyPeersModel", "wishCounts", "[I", true)
  | 10 => ("RekeyPeersModel", "wishKinds", "[I", true)
  | 11 => ("RekeyPeersModel", "wishMarks", "[I", true)
  | 12 => ("RekeyPeersModel", "dead", "[Z", true)
  | 13 => ("RekeyPeersModel", "isOut", "[Z", true)
  | 14 => ("RekeyPeersModel", "outs", "[I", true)
  | 15 => ("RekeyPeersModel", "sentTimes", "[I", true)
  | 16 => ("RekeyPeersModel", "waits", "[I", true)
  | 17 => ("RekeyPeersModel", "spans", "[I", true)
  | 18 => ("RekeyPeersModel", "nextNumbers", "[I", true)
  | 19 => ("RekeyPeersModel", "nextAnswers", "[I", true)
  | 20 => ("RekeyPeersModel", "latest", "[I", true)
  | 21 => ("RekeyPeersModel", "flights", "[I", true)
  | 22 => ("RekeyPeersModel", "packets", "[I", true)
  | _ => ("RekeyPeersModel", "made", "[I", true)
def tyX10 : Nat → FieldType := fun k => match k with
  | 0 => .int
  | 1 => .array .int
  | 2 => .array .int
  | 3 => .array .int
  | 4 => .array .int
  | 5 => .array .int
  | 6 => .array .int
  | 7 => .array .int
  | 8 => .array .int
  | 9 => .array .int
  | 10 => .array .int
  | 11 => .array .int
  | 12 => .array .boolean
  | 13 => .array .boolean
  | 14 => .array .int
  | 15 => .array .int
  | 16 => .array .int
  | 17 => .array .int
  | 18 => .array .int
  | 19 => .array .int
  | 20 => .array .int
  | 21 => .array .int
  | 22 => .array .int
  | _ => .array .int
theorem nmX10 : ∀ a, a < 24 → ∀ b, b < 24 → a ≠ b → (TX10 a).2.1 ≠ (TX10 b).2.1 := by decide +kernel
theorem tyX10_ok : ∀ k, k < 24 → parseFieldDescriptor (TX10 k).2.2.1 = some (tyX10 k) := by decide +kernel
abbrev cX10_init : ByteArray := prog_12_method_1_code
def yX10_init : MethodName := ⟨RX10, "<init>", "()V"⟩
abbrev cX10_thrown : ByteArray := prog_12_method_2_code
def yX10_thrown : MethodName := ⟨RX10, "thrown", "()I"⟩
abbrev cX10_clear : ByteArray := prog_12_method_3_code
def yX10_clear : MethodName := ⟨RX10, "clear", "()V"⟩
abbrev cX10_isPeer : ByteArray := prog_12_method_4_code
def yX10_isPeer : MethodName := ⟨RX10, "isPeer", "(I)Z"⟩
abbrev cX10_suite : ByteArray := prog_12_method_5_code
def yX10_suite : MethodName := ⟨RX10, "suite", "(II)I"⟩
abbrev cX10_range : ByteArray := prog_12_method_6_code
def yX10_range : MethodName := ⟨RX10, "range", "(III)I"⟩
abbrev cX10_seed : ByteArray := prog_12_method_7_code
def yX10_seed : MethodName := ⟨RX10, "seed", "(II)V"⟩
abbrev cX10_nextNonce : ByteArray := prog_12_method_8_code
def yX10_nextNonce : MethodName := ⟨RX10, "nextNonce", "(I)I"⟩
abbrev cX10_nextMark : ByteArray := prog_12_method_9_code
def yX10_nextMark : MethodName := ⟨RX10, "nextMark", "(I)I"⟩
abbrev cX10_kid : ByteArray := prog_12_method_10_code
def yX10_kid : MethodName := ⟨RX10, "kid", "(III)I"⟩
abbrev cX10_find : ByteArray := prog_12_method_11_code
def yX10_find : MethodName := ⟨RX10, "find", "(III)I"⟩
abbrev cX10_renewing : ByteArray := prog_12_method_12_code
def yX10_renewing : MethodName := ⟨RX10, "renewing", "(III)I"⟩
abbrev cX10_addKid : ByteArray := prog_12_method_13_code
def yX10_addKid : MethodName := ⟨RX10, "addKid", "(IIIIIIIII)V"⟩
abbrev cX10_dropKid : ByteArray := prog_12_method_14_code
def yX10_dropKid : MethodName := ⟨RX10, "dropKid", "(II)V"⟩
abbrev cX10_addWish : ByteArray := prog_12_method_15_code
def yX10_addWish : MethodName := ⟨RX10, "addWish", "(III)V"⟩
abbrev cX10_wish : ByteArray := prog_12_method_16_code
def yX10_wish : MethodName := ⟨RX10, "wish", "(III)I"⟩
abbrev cX10_takeWishes : ByteArray := prog_12_method_17_code
def yX10_takeWishes : MethodName := ⟨RX10, "takeWishes", "()V"⟩
abbrev cX10_ask : ByteArray := prog_12_method_18_code
def yX10_ask : MethodName := ⟨RX10, "ask", "(IIII)V"⟩
abbrev cX10_blank : ByteArray := prog_12_method_19_code
def yX10_blank : MethodName := ⟨RX10, "blank", "(III)V"⟩
abbrev cX10_place : ByteArray := prog_12_method_20_code
def yX10_place : MethodName := ⟨RX10, "place", "(II)I"⟩
abbrev cX10_fly : ByteArray := prog_12_method_21_code
def yX10_fly : MethodName := ⟨RX10, "fly", "(I)V"⟩
abbrev cX10_land : ByteArray := prog_12_method_22_code
def yX10_land : MethodName := ⟨RX10, "land", "(II)V"⟩
abbrev cX10_isPacket : ByteArray := prog_12_method_23_code
def yX10_isPacket : MethodName := ⟨RX10, "isPacket", "(II)Z"⟩
abbrev cX10_deliver : ByteArray := prog_12_method_24_code
def yX10_deliver : MethodName := ⟨RX10, "deliver", "(II)I"⟩
abbrev cX10_lose : ByteArray := prog_12_method_25_code
def yX10_lose : MethodName := ⟨RX10, "lose", "(II)I"⟩
abbrev cX10_twice : ByteArray := prog_12_method_26_code
def yX10_twice : MethodName := ⟨RX10, "twice", "(II)I"⟩
abbrev cX10_request : ByteArray := prog_12_method_27_code
def yX10_request : MethodName := ⟨RX10, "request", "(I)I"⟩
abbrev cX10_answerOpen : ByteArray := prog_12_method_28_code
def yX10_answerOpen : MethodName := ⟨RX10, "answerOpen", "(I)V"⟩
abbrev cX10_answerRenew : ByteArray := prog_12_method_29_code
def yX10_answerRenew : MethodName := ⟨RX10, "answerRenew", "(I)V"⟩
abbrev cX10_answer : ByteArray := prog_12_method_30_code
def yX10_answer : MethodName := ⟨RX10, "answer", "(I)I"⟩
abbrev cX10_renewed : ByteArray := prog_12_method_31_code
def yX10_renewed : MethodName := ⟨RX10, "renewed", "(III)V"⟩
abbrev cX10_tick : ByteArray := prog_12_method_32_code
def yX10_tick : MethodName := ⟨RX10, "tick", "(I)I"⟩
abbrev cX10_again : ByteArray := prog_12_method_33_code
def yX10_again : MethodName := ⟨RX10, "again", "(I)I"⟩
abbrev cX10_children : ByteArray := prog_12_method_34_code
def yX10_children : MethodName := ⟨RX10, "children", "(I)I"⟩
abbrev cX10_child : ByteArray := prog_12_method_35_code
def yX10_child : MethodName := ⟨RX10, "child", "(III)I"⟩
abbrev cX10_flying : ByteArray := prog_12_method_36_code
def yX10_flying : MethodName := ⟨RX10, "flying", "(I)I"⟩
abbrev cX10_packet : ByteArray := prog_12_method_37_code
def yX10_packet : MethodName := ⟨RX10, "packet", "(III)I"⟩
abbrev cX10_told : ByteArray := prog_12_method_38_code
def yX10_told : MethodName := ⟨RX10, "told", "(II)I"⟩
abbrev cX10_agreed : ByteArray := prog_12_method_39_code
def yX10_agreed : MethodName := ⟨RX10, "agreed", "()I"⟩
def RJx145de : String := "java/io/Serializable"
def TJx145de : u_T := fun k => match k with
  | _ => ("", "", "", false)
def tyJx145de : Nat → FieldType := fun k => match k with
  | _ => .int
theorem nmJx145de : ∀ a, a < 0 → ∀ b, b < 0 → a ≠ b → (TJx145de a).2.1 ≠ (TJx145de b).2.1 := by decide +kernel
theorem tyJx145de_ok : ∀ k, k < 0 → parseFieldDescriptor (TJx145de k).2.2.1 = some (tyJx145de k) := by decide +kernel
def RJx8e188 : String := "java/lang/Cloneable"
def TJx8e188 : u_T := fun k => match k with
  | _ => ("", "", "", false)
def tyJx8e188 : Nat → FieldType := fun k => match k with
  | _ => .int
theorem nmJx8e188 : ∀ a, a < 0 → ∀ b, b < 0 → a ≠ b → (TJx8e188 a).2.1 ≠ (TJx8e188 b).2.1 := by decide +kernel
theorem tyJx8e188_ok : ∀ k, k < 0 → parseFieldDescriptor (TJx8e188 k).2.2.1 = some (tyJx8e188 k) := by decide +kernel
def RJxab1ab : String := "java/lang/Iterable"
def TJxab1ab : u_T := fun k => match k with
  | _ => ("", "", "", false)
def tyJxab1ab : Nat → FieldType := fun k => match k with
  | _ => .int
theorem nmJxab1ab : ∀ a, a < 0 → ∀ b, b < 0 → a ≠ b → (TJxab1ab a).2.1 ≠ (TJxab1ab b).2.1 := by decide +kernel
theorem tyJxab1ab_ok : ∀ k, k < 0 → parseFieldDescriptor (TJxab1ab k).2.2.1 = some (tyJxab1ab k) := by decide +kernel
def RJ9 : String := "java/lang/Math"
def TJ9 : u_T := fun k => match k with
  | _ => ("", "", "", false)
def tyJ9 : Nat → FieldType := fun k => match k with
  | _ => .int
theorem nmJ9 : ∀ a, a < 0 → ∀ b, b < 0 → a ≠ b → (TJ9 a).2.1 ≠ (TJ9 b).2.1 := by decide +kernel
theorem tyJ9_ok : ∀ k, k < 0 → parseFieldDescriptor (TJ9 k).2.2.1 = some (tyJ9 k) := by decide +kernel
abbrev cJ9_max_7cf53 : ByteArray := prog_20_method_65_code
def yJ9_max_7cf53 : MethodName := ⟨RJ9, "max", "(II)I"⟩
abbrev cJ9_min_7cf53 : ByteArray := prog_20_method_69_code
def yJ9_min_7cf53 : MethodName := ⟨RJ9, "min", "(II)I"⟩
def RJ10 : String := "java/lang/System"
def TJ10 : u_T := fun k => match k with
  | _ => ("", "", "", false)
def tyJ10 : Nat → FieldType := fun k => match k with
  | _ => .int
theorem nmJ10 : ∀ a, a < 0 → ∀ b, b < 0 → a ≠ b → (TJ10 a).2.1 ≠ (TJ10 b).2.1 := by decide +kernel
theorem tyJ10_ok : ∀ k, k < 0 → parseFieldDescriptor (TJ10 k).2.2.1 = some (tyJ10 k) := by decide +kernel
def RJxa1e45 : String := "java/util/AbstractCollection"
def TJxa1e45 : u_T := fun k => match k with
  | _ => ("", "", "", false)
def tyJxa1e45 : Nat → FieldType := fun k => match k with
  | _ => .int
theorem nmJxa1e45 : ∀ a, a < 0 → ∀ b, b < 0 → a ≠ b → (TJxa1e45 a).2.1 ≠ (TJxa1e45 b).2.1 := by decide +kernel
theorem tyJxa1e45_ok : ∀ k, k < 0 → parseFieldDescriptor (TJxa1e45 k).2.2.1 = some (tyJxa1e45 k) := by decide +kernel
abbrev cJxa1e45_init_da8c8 : ByteArray := prog_25_method_1_code
def yJxa1e45_init_da8c8 : MethodName := ⟨RJxa1e45, "<init>", "()V"⟩
def RJxc12de : String := "java/util/AbstractList"
def TJxc12de : u_T := fun k => match k with
  | _ => ("", "", "", false)
def tyJxc12de : Nat → FieldType := fun k => match k with
  | _ => .int
theorem nmJxc12de : ∀ a, a < 0 → ∀ b, b < 0 → a ≠ b → (TJxc12de a).2.1 ≠ (TJxc12de b).2.1 := by decide +kernel
theorem tyJxc12de_ok : ∀ k, k < 0 → parseFieldDescriptor (TJxc12de k).2.2.1 = some (tyJxc12de k) := by decide +kernel
abbrev cJxc12de_init_da8c8 : ByteArray := prog_26_method_1_code
def yJxc12de_init_da8c8 : MethodName := ⟨RJxc12de, "<init>", "()V"⟩
def RJx4a65c : String := "java/util/ArrayList"
def TJx4a65c : u_T := fun k => match k with
  | 0 => ("java/util/AbstractList", "modCount", "I", false)
  | 1 => ("java/util/ArrayList", "elementData", "[Ljava/lang/Object;", false)
  | _ => ("java/util/ArrayList", "size", "I", false)
def tyJx4a65c : Nat → FieldType := fun k => match k with
  | 0 => .int
  | 1 => .array (.object "java/lang/Object")
  | _ => .int
theorem nmJx4a65c : ∀ a, a < 3 → ∀ b, b < 3 → a ≠ b → (TJx4a65c a).2.1 ≠ (TJx4a65c b).2.1 := by decide +kernel
theorem tyJx4a65c_ok : ∀ k, k < 3 → parseFieldDescriptor (TJx4a65c k).2.2.1 = some (tyJx4a65c k) := by decide +kernel
abbrev cJx4a65c_init_da8c8 : ByteArray := prog_27_method_2_code
def yJx4a65c_init_da8c8 : MethodName := ⟨RJx4a65c, "<init>", "()V"⟩
abbrev cJx4a65c_grow_92f84 : ByteArray := prog_27_method_6_code
def yJx4a65c_grow_92f84 : MethodName := ⟨RJx4a65c, "grow", "(I)[Ljava/lang/Object;"⟩
abbrev cJx4a65c_grow_d5877 : ByteArray := prog_27_method_7_code
def yJx4a65c_grow_d5877 : MethodName := ⟨RJx4a65c, "grow", "()[Ljava/lang/Object;"⟩
abbrev cJx4a65c_size_8abf5 : ByteArray := prog_27_method_8_code
def yJx4a65c_size_8abf5 : MethodName := ⟨RJx4a65c, "size", "()I"⟩
abbrev cJx4a65c_elementData_915e3 : ByteArray := prog_27_method_18_code
def yJx4a65c_elementData_915e3 : MethodName := ⟨RJx4a65c, "elementData", "(I)Ljava/lang/Object;"⟩
abbrev cJx4a65c_get_915e3 : ByteArray := prog_27_method_20_code
def yJx4a65c_get_915e3 : MethodName := ⟨RJx4a65c, "get", "(I)Ljava/lang/Object;"⟩
abbrev cJx4a65c_add_72be8 : ByteArray := prog_27_method_24_code
def yJx4a65c_add_72be8 : MethodName := ⟨RJx4a65c, "add", "(Ljava/lang/Object;[Ljava/lang/Object;I)V"⟩
abbrev cJx4a65c_add_9ea2d : ByteArray := prog_27_method_25_code
def yJx4a65c_add_9ea2d : MethodName := ⟨RJx4a65c, "add", "(Ljava/lang/Object;)Z"⟩
abbrev cJx4a65c_remove_915e3 : ByteArray := prog_27_method_29_code
def yJx4a65c_remove_915e3 : MethodName := ⟨RJx4a65c, "remove", "(I)Ljava/lang/Object;"⟩
abbrev cJx4a65c_fastRemove_b59b0 : ByteArray := prog_27_method_39_code
def yJx4a65c_fastRemove_b59b0 : MethodName := ⟨RJx4a65c, "fastRemove", "([Ljava/lang/Object;I)V"⟩
abbrev cJx4a65c_clear_da8c8 : ByteArray := prog_27_method_40_code
def yJx4a65c_clear_da8c8 : MethodName := ⟨RJx4a65c, "clear", "()V"⟩
def RJ7 : String := "java/util/Arrays"
def TJ7 : u_T := fun k => match k with
  | _ => ("", "", "", false)
def tyJ7 : Nat → FieldType := fun k => match k with
  | _ => .int
theorem nmJ7 : ∀ a, a < 0 → ∀ b, b < 0 → a ≠ b → (TJ7 a).2.1 ≠ (TJ7 b).2.1 := by decide +kernel
theorem tyJ7_ok : ∀ k, k < 0 → parseFieldDescriptor (TJ7 k).2.2.1 = some (tyJ7 k) := by decide +kernel
abbrev cJ7_copyOf_1904c : ByteArray := prog_28_method_119_code
def yJ7_copyOf_1904c : MethodName := ⟨RJ7, "copyOf", "([Ljava/lang/Object;I)[Ljava/lang/Object;"⟩
abbrev cJ7_copyOf_6403c : ByteArray := prog_28_method_120_code
def yJ7_copyOf_6403c : MethodName := ⟨RJ7, "copyOf", "([Ljava/lang/Object;ILjava/lang/Class;)[Ljava/lang/Object;"⟩
abbrev cJ7_copyOf_59c91 : ByteArray := prog_28_method_123_code
def yJ7_copyOf_59c91 : MethodName := ⟨RJ7, "copyOf", "([II)[I"⟩
def RJx5ef63 : String := "java/util/Collection"
def TJx5ef63 : u_T := fun k => match k with
  | _ => ("", "", "", false)
def tyJx5ef63 : Nat → FieldType := fun k => match k with
  | _ => .int
theorem nmJx5ef63 : ∀ a, a < 0 → ∀ b, b < 0 → a ≠ b → (TJx5ef63 a).2.1 ≠ (TJx5ef63 b).2.1 := by decide +kernel
theorem tyJx5ef63_ok : ∀ k, k < 0 → parseFieldDescriptor (TJx5ef63 k).2.2.1 = some (tyJx5ef63 k) := by decide +kernel
def RJxbd725 : String := "java/util/List"
def TJxbd725 : u_T := fun k => match k with
  | _ => ("", "", "", false)
def tyJxbd725 : Nat → FieldType := fun k => match k with
  | _ => .int
theorem nmJxbd725 : ∀ a, a < 0 → ∀ b, b < 0 → a ≠ b → (TJxbd725 a).2.1 ≠ (TJxbd725 b).2.1 := by decide +kernel
theorem tyJxbd725_ok : ∀ k, k < 0 → parseFieldDescriptor (TJxbd725 k).2.2.1 = some (tyJxbd725 k) := by decide +kernel
def RJ15 : String := "java/util/Objects"
def TJ15 : u_T := fun k => match k with
  | _ => ("", "", "", false)
def tyJ15 : Nat → FieldType := fun k => match k with
  | _ => .int
theorem nmJ15 : ∀ a, a < 0 → ∀ b, b < 0 → a ≠ b → (TJ15 a).2.1 ≠ (TJ15 b).2.1 := by decide +kernel
theorem tyJ15_ok : ∀ k, k < 0 → parseFieldDescriptor (TJ15 k).2.2.1 = some (tyJ15 k) := by decide +kernel
abbrev cJ15_checkIndex_7cf53 : ByteArray := prog_31_method_17_code
def yJ15_checkIndex_7cf53 : MethodName := ⟨RJ15, "checkIndex", "(II)I"⟩
def RJxf0a74 : String := "java/util/RandomAccess"
def TJxf0a74 : u_T := fun k => match k with
  | _ => ("", "", "", false)
def tyJxf0a74 : Nat → FieldType := fun k => match k with
  | _ => .int
theorem nmJxf0a74 : ∀ a, a < 0 → ∀ b, b < 0 → a ≠ b → (TJxf0a74 a).2.1 ≠ (TJxf0a74 b).2.1 := by decide +kernel
theorem tyJxf0a74_ok : ∀ k, k < 0 → parseFieldDescriptor (TJxf0a74 k).2.2.1 = some (tyJxf0a74 k) := by decide +kernel
def RJxa66e6 : String := "java/util/SequencedCollection"
def TJxa66e6 : u_T := fun k => match k with
  | _ => ("", "", "", false)
def tyJxa66e6 : Nat → FieldType := fun k => match k with
  | _ => .int
theorem nmJxa66e6 : ∀ a, a < 0 → ∀ b, b < 0 → a ≠ b → (TJxa66e6 a).2.1 ≠ (TJxa66e6 b).2.1 := by decide +kernel
theorem tyJxa66e6_ok : ∀ k, k < 0 → parseFieldDescriptor (TJxa66e6 k).2.2.1 = some (tyJxa66e6 k) := by decide +kernel
def RJ8 : String := "jdk/internal/util/ArraysSupport"
def TJ8 : u_T := fun k => match k with
  | _ => ("", "", "", false)
def tyJ8 : Nat → FieldType := fun k => match k with
  | _ => .int
theorem nmJ8 : ∀ a, a < 0 → ∀ b, b < 0 → a ≠ b → (TJ8 a).2.1 ≠ (TJ8 b).2.1 := by decide +kernel
theorem tyJ8_ok : ∀ k, k < 0 → parseFieldDescriptor (TJ8 k).2.2.1 = some (tyJ8 k) := by decide +kernel
abbrev cJ8_newLength_cabcc : ByteArray := prog_34_method_27_code
def yJ8_newLength_cabcc : MethodName := ⟨RJ8, "newLength", "(III)I"⟩
abbrev cJ8_hugeLength_7cf53 : ByteArray := prog_34_method_28_code
def yJ8_hugeLength_7cf53 : MethodName := ⟨RJ8, "hugeLength", "(II)I"⟩
def RJ3 : String := "jdk/internal/util/Preconditions"
def TJ3 : u_T := fun k => match k with
  | _ => ("", "", "", false)
def tyJ3 : Nat → FieldType := fun k => match k with
  | _ => .int
theorem nmJ3 : ∀ a, a < 0 → ∀ b, b < 0 → a ≠ b → (TJ3 a).2.1 ≠ (TJ3 b).2.1 := by decide +kernel
theorem tyJ3_ok : ∀ k, k < 0 → parseFieldDescriptor (TJ3 k).2.2.1 = some (tyJ3 k) := by decide +kernel
abbrev cJ3_checkIndex_8e157 : ByteArray := prog_35_method_11_code
def yJ3_checkIndex_8e157 : MethodName := ⟨RJ3, "checkIndex", "(IILjava/util/function/BiFunction;)I"⟩
def RL : String := "RekeyPeersLaw"
abbrev cL_suite : ByteArray := method_3_code
def yL_suite : MethodName := ⟨RL, "suite", "(LRekeyPeers;II[J)I"⟩
abbrev cL_range : ByteArray := method_4_code
def yL_range : MethodName := ⟨RL, "range", "(LRekeyPeers;III[J)I"⟩
abbrev cL_seed : ByteArray := method_5_code
def yL_seed : MethodName := ⟨RL, "seed", "(LRekeyPeers;II)I"⟩
abbrev cL_wish : ByteArray := method_6_code
def yL_wish : MethodName := ⟨RL, "wish", "(LRekeyPeers;III[J)I"⟩
abbrev cL_deliver : ByteArray := method_7_code
def yL_deliver : MethodName := ⟨RL, "deliver", "(LRekeyPeers;II[J)I"⟩
abbrev cL_lose : ByteArray := method_8_code
def yL_lose : MethodName := ⟨RL, "lose", "(LRekeyPeers;II[J)I"⟩
abbrev cL_twice : ByteArray := method_9_code
def yL_twice : MethodName := ⟨RL, "twice", "(LRekeyPeers;II[J)I"⟩
abbrev cL_tick : ByteArray := method_10_code
def yL_tick : MethodName := ⟨RL, "tick", "(LRekeyPeers;I[J)I"⟩
abbrev cL_children : ByteArray := method_11_code
def yL_children : MethodName := ⟨RL, "children", "(LRekeyPeers;I[J)I"⟩
abbrev cL_child : ByteArray := method_12_code
def yL_child : MethodName := ⟨RL, "child", "(LRekeyPeers;III[J)I"⟩
abbrev cL_flying : ByteArray := method_13_code
def yL_flying : MethodName := ⟨RL, "flying", "(LRekeyPeers;I[J)I"⟩
abbrev cL_packet : ByteArray := method_14_code
def yL_packet : MethodName := ⟨RL, "packet", "(LRekeyPeers;III[J)I"⟩
abbrev cL_told : ByteArray := method_15_code
def yL_told : MethodName := ⟨RL, "told", "(LRekeyPeers;II[J)I"⟩
abbrev cL_law : ByteArray := code
def yL_law : MethodName := ⟨RL, "law", "([I)Z"⟩
abbrev vwCl : List vw_C := [(RJx4a65c, TJx4a65c, 3), (RX0, TX0, 6), (RX1, TX1, 6), (RX2, TX2, 3), (RX3, TX3, 1), (RX4, TX4, 3), (RX6, TX6, 18), (RX7, TX7, 6), (RX8, TX8, 2), (RX9, TX9, 4), (RX10, TX10, 24)]
