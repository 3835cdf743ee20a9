section
-- ===== PART A: goes FIRST, ahead of the names: the tables' words, and 'selects' of the private methods out of them =====
/-- a private method of a class that the tables say can be made, by its rows of tables_1 -/
def lw_okq (q : MethodName × Nat) : Prop := (q.1.cls ≠ "java/lang/invoke/MethodHandle" ∧ q.1.cls ≠ "java/lang/invoke/VarHandle") ∧ Cond.instantiable q.1.cls q.2 ∈ tables_1 ∧ Cond.privateMethod q.1 ∈ tables_1 ∧ Cond.instanceMethod q.1 ∈ tables_1
theorem lw_p0 : lw_okq (⟨"PointColours", "startGraph", "(II)V"⟩, 11) := ⟨⟨by decide +kernel, by decide +kernel⟩, List.mem_of_getElem? (i := 5) (by decide +kernel), List.mem_of_getElem? (i := 13) (by decide +kernel), List.mem_of_getElem? (i := 14) (by decide +kernel)⟩
theorem lw_p1 : lw_okq (⟨"PointColours", "isPoint", "(I)Z"⟩, 11) := ⟨⟨by decide +kernel, by decide +kernel⟩, List.mem_of_getElem? (i := 5) (by decide +kernel), List.mem_of_getElem? (i := 68) (by decide +kernel), List.mem_of_getElem? (i := 69) (by decide +kernel)⟩
theorem lw_p2 : lw_okq (⟨"PointColours", "hasEdge", "(II)Z"⟩, 11) := ⟨⟨by decide +kernel, by decide +kernel⟩, List.mem_of_getElem? (i := 5) (by decide +kernel), List.mem_of_getElem? (i := 72) (by decide +kernel), List.mem_of_getElem? (i := 73) (by decide +kernel)⟩
theorem lw_p3 : lw_okq (⟨"PointColours", "addNeighbour", "(II)V"⟩, 11) := ⟨⟨by decide +kernel, by decide +kernel⟩, List.mem_of_getElem? (i := 5) (by decide +kernel), List.mem_of_getElem? (i := 82) (by decide +kernel), List.mem_of_getElem? (i := 83) (by decide +kernel)⟩
theorem lw_p4 : lw_okq (⟨"PointColours", "takeAllOut", "()V"⟩, 11) := ⟨⟨by decide +kernel, by decide +kernel⟩, List.mem_of_getElem? (i := 5) (by decide +kernel), List.mem_of_getElem? (i := 99) (by decide +kernel), List.mem_of_getElem? (i := 100) (by decide +kernel)⟩
theorem lw_p5 : lw_okq (⟨"PointColours", "nextOut", "()I"⟩, 11) := ⟨⟨by decide +kernel, by decide +kernel⟩, List.mem_of_getElem? (i := 5) (by decide +kernel), List.mem_of_getElem? (i := 103) (by decide +kernel), List.mem_of_getElem? (i := 104) (by decide +kernel)⟩
theorem lw_p6 : lw_okq (⟨"PointColours", "isCheaper", "(II)Z"⟩, 11) := ⟨⟨by decide +kernel, by decide +kernel⟩, List.mem_of_getElem? (i := 5) (by decide +kernel), List.mem_of_getElem? (i := 107) (by decide +kernel), List.mem_of_getElem? (i := 108) (by decide +kernel)⟩
theorem lw_p7 : lw_okq (⟨"PointColours", "takeOut", "(I)V"⟩, 11) := ⟨⟨by decide +kernel, by decide +kernel⟩, List.mem_of_getElem? (i := 5) (by decide +kernel), List.mem_of_getElem? (i := 111) (by decide +kernel), List.mem_of_getElem? (i := 112) (by decide +kernel)⟩
theorem lw_p8 : lw_okq (⟨"PointColours", "putAllBack", "()V"⟩, 11) := ⟨⟨by decide +kernel, by decide +kernel⟩, List.mem_of_getElem? (i := 5) (by decide +kernel), List.mem_of_getElem? (i := 115) (by decide +kernel), List.mem_of_getElem? (i := 116) (by decide +kernel)⟩
theorem lw_p9 : lw_okq (⟨"PointColours", "chooseColour", "(I)I"⟩, 11) := ⟨⟨by decide +kernel, by decide +kernel⟩, List.mem_of_getElem? (i := 5) (by decide +kernel), List.mem_of_getElem? (i := 119) (by decide +kernel), List.mem_of_getElem? (i := 120) (by decide +kernel)⟩
theorem lw_p10 : lw_okq (⟨"PointColours", "coloursAround", "(I)I"⟩, 11) := ⟨⟨by decide +kernel, by decide +kernel⟩, List.mem_of_getElem? (i := 5) (by decide +kernel), List.mem_of_getElem? (i := 123) (by decide +kernel), List.mem_of_getElem? (i := 124) (by decide +kernel)⟩
theorem lw_p11 : lw_okq (⟨"PointColours", "wishedColour", "(I)I"⟩, 11) := ⟨⟨by decide +kernel, by decide +kernel⟩, List.mem_of_getElem? (i := 5) (by decide +kernel), List.mem_of_getElem? (i := 127) (by decide +kernel), List.mem_of_getElem? (i := 128) (by decide +kernel)⟩
theorem lw_p12 : lw_okq (⟨"PointColours", "countColourless", "()I"⟩, 11) := ⟨⟨by decide +kernel, by decide +kernel⟩, List.mem_of_getElem? (i := 5) (by decide +kernel), List.mem_of_getElem? (i := 134) (by decide +kernel), List.mem_of_getElem? (i := 135) (by decide +kernel)⟩
theorem lw_p13 : lw_okq (⟨"PointColoursModel", "isPoint", "(I)Z"⟩, 9) := ⟨⟨by decide +kernel, by decide +kernel⟩, List.mem_of_getElem? (i := 158) (by decide +kernel), List.mem_of_getElem? (i := 202) (by decide +kernel), List.mem_of_getElem? (i := 203) (by decide +kernel)⟩
theorem lw_p14 : lw_okq (⟨"PointColoursModel", "next", "()I"⟩, 9) := ⟨⟨by decide +kernel, by decide +kernel⟩, List.mem_of_getElem? (i := 158) (by decide +kernel), List.mem_of_getElem? (i := 219) (by decide +kernel), List.mem_of_getElem? (i := 220) (by decide +kernel)⟩
theorem lw_p15 : lw_okq (⟨"PointColoursModel", "left", "(I)I"⟩, 9) := ⟨⟨by decide +kernel, by decide +kernel⟩, List.mem_of_getElem? (i := 158) (by decide +kernel), List.mem_of_getElem? (i := 223) (by decide +kernel), List.mem_of_getElem? (i := 224) (by decide +kernel)⟩
def lw_privs_1 : List (MethodName × Nat) := [(⟨"PointColours", "startGraph", "(II)V"⟩, 11), (⟨"PointColours", "isPoint", "(I)Z"⟩, 11), (⟨"PointColours", "hasEdge", "(II)Z"⟩, 11), (⟨"PointColours", "addNeighbour", "(II)V"⟩, 11), (⟨"PointColours", "takeAllOut", "()V"⟩, 11), (⟨"PointColours", "nextOut", "()I"⟩, 11), (⟨"PointColours", "isCheaper", "(II)Z"⟩, 11), (⟨"PointColours", "takeOut", "(I)V"⟩, 11), (⟨"PointColours", "putAllBack", "()V"⟩, 11), (⟨"PointColours", "chooseColour", "(I)I"⟩, 11), (⟨"PointColours", "coloursAround", "(I)I"⟩, 11), (⟨"PointColours", "wishedColour", "(I)I"⟩, 11), (⟨"PointColours", "countColourless", "()I"⟩, 11), (⟨"PointColoursModel", "isPoint", "(I)Z"⟩, 9), (⟨"PointColoursModel", "next", "()I"⟩, 9), (⟨"PointColoursModel", "left", "(I)I"⟩, 9)]
theorem lw_r1 : ∀ q ∈ lw_privs_1, lw_okq q := List.forall_mem_cons.mpr ⟨lw_p0, List.forall_mem_cons.mpr ⟨lw_p1, List.forall_mem_cons.mpr ⟨lw_p2, List.forall_mem_cons.mpr ⟨lw_p3, List.forall_mem_cons.mpr ⟨lw_p4, List.forall_mem_cons.mpr ⟨lw_p5, List.forall_mem_cons.mpr ⟨lw_p6, List.forall_mem_cons.mpr ⟨lw_p7, List.forall_mem_cons.mpr ⟨lw_p8, List.forall_mem_cons.mpr ⟨lw_p9, List.forall_mem_cons.mpr ⟨lw_p10, List.forall_mem_cons.mpr ⟨lw_p11, List.forall_mem_cons.mpr ⟨lw_p12, List.forall_mem_cons.mpr ⟨lw_p13, List.forall_mem_cons.mpr ⟨lw_p14, List.forall_mem_cons.mpr ⟨lw_p15, fun _ h => absurd h List.not_mem_nil⟩⟩⟩⟩⟩⟩⟩⟩⟩⟩⟩⟩⟩⟩⟩⟩
theorem lw_p16 : lw_okq (⟨"PointColoursModel", "colourFor", "(I)I"⟩, 9) := ⟨⟨by decide +kernel, by decide +kernel⟩, List.mem_of_getElem? (i := 158) (by decide +kernel), List.mem_of_getElem? (i := 227) (by decide +kernel), List.mem_of_getElem? (i := 228) (by decide +kernel)⟩
theorem lw_p17 : lw_okq (⟨"PointColoursModel", "isFree", "(II)Z"⟩, 9) := ⟨⟨by decide +kernel, by decide +kernel⟩, List.mem_of_getElem? (i := 158) (by decide +kernel), List.mem_of_getElem? (i := 231) (by decide +kernel), List.mem_of_getElem? (i := 232) (by decide +kernel)⟩
def lw_privs_2 : List (MethodName × Nat) := [(⟨"PointColoursModel", "colourFor", "(I)I"⟩, 9), (⟨"PointColoursModel", "isFree", "(II)Z"⟩, 9)]
theorem lw_r2 : ∀ q ∈ lw_privs_2, lw_okq q := List.forall_mem_cons.mpr ⟨lw_p16, List.forall_mem_cons.mpr ⟨lw_p17, fun _ h => absurd h List.not_mem_nil⟩⟩
def lw_privs : List (MethodName × Nat) := lw_privs_1 ++ (lw_privs_2)
def lw_tbl : List Cond := k2_sels lw_privs ++ tables_1
theorem lw_privs_ok : ∀ q ∈ lw_privs, lw_okq q := by
  show ∀ q ∈ lw_privs_1 ++ (lw_privs_2), lw_okq q
  exact List.forall_mem_append.mpr ⟨lw_r1, lw_r2⟩
-- ===== end of PART A; then your names; then what follows =====
end
section
/-! ===== BEGIN words of one list among another's, by their places ===== -/
theorem goodIn_r {big : List Cond} (ws : List Cond) (ps : List Nat) (hp : ws = ps.filterMap (fun i => big[i]?)) (h : ws.all goodWord = true) : GoodIn big ws := by
  intro w hw
  have h1 := List.all_eq_true.mp h w hw
  rw [hp] at hw
  obtain ⟨i, -, hi⟩ := List.mem_filterMap.mp hw
  have hm : w ∈ big := by first | exact List.mem_of_getElem? hi | exact List.getElem?_mem hi
  exact ⟨hm, good_of_word h1⟩
theorem goodIn_app {big a b : List Cond} (ha : GoodIn big a) (hb : GoodIn big b) : GoodIn big (a ++ b) := fun w h => (List.mem_append.mp h).elim (ha w) (hb w)
theorem goodIn_ca {big a b : List Cond} {c : Cond} (ha : GoodIn big (c :: a)) (hb : GoodIn big b) : GoodIn big (c :: (a ++ b)) := fun w h => (List.mem_cons.mp h).elim (fun e => ha w (List.mem_cons.mpr (Or.inl e))) (fun h => (List.mem_append.mp h).elim (fun h => ha w (List.mem_cons.mpr (Or.inr h))) (hb w))
theorem goodIn_sub {big ws : List Cond} (hm : ∀ w ∈ ws, w ∈ big) (h : ws.all goodWord = true) : GoodIn big ws := fun w hw => ⟨hm w hw, good_of_word (List.all_eq_true.mp h w hw)⟩
/-! ===== END ===== -/

/-! ===== BEGIN printed: names, fields, word lists, decode rows ===== -/
def RX0 : String := "PointColours"
def TX0 : u_T := fun k => match k with
  | 0 => ("PointColours", "points", "I", false)
  | 1 => ("PointColours", "colours", "I", false)
  | 2 => ("PointColours", "given", "Z", false)
  | 3 => ("PointColours", "edges", "[J", true)
  | 4 => ("PointColours", "degrees", "[I", true)
  | 5 => ("PointColours", "costs", "[I", true)
  | 6 => ("PointColours", "wishes", "[I", true)
  | 7 => ("PointColours", "order", "[I", true)
  | 8 => ("PointColours", "isOut", "[Z", true)
  | 9 => ("PointColours", "neighboursIn", "[I", true)
  | _ => ("PointColours", "colourOf", "[I", true)
def tyX0 : Nat → FieldType := fun k => match k with
  | 0 => .int
  | 1 => .int
  | 2 => .boolean
  | 3 => .array .long
  | 4 => .array .int
  | 5 => .array .int
  | 6 => .array .int
  | 7 => .array .int
  | 8 => .array .boolean
  | 9 => .array .int
  | _ => .array .int
abbrev wsX00 : List Cond := u_ws RX0 TX0 11
theorem nmX0 : ∀ a, a < 11 → ∀ b, b < 11 → a ≠ b → (TX0 a).2.1 ≠ (TX0 b).2.1 := by decide +kernel
theorem tyX0_ok : ∀ k, k < 11 → parseFieldDescriptor (TX0 k).2.2.1 = some (tyX0 k) := by decide +kernel
abbrev cX0_init : ByteArray := prog_1_method_1_code
def yX0_init : MethodName := ⟨RX0, "<init>", "()V"⟩
abbrev cX0_begin : ByteArray := prog_1_method_2_code
def yX0_begin : MethodName := ⟨RX0, "begin", "(II)Z"⟩
abbrev cX0_join : ByteArray := prog_1_method_3_code
def yX0_join : MethodName := ⟨RX0, "join", "(II)Z"⟩
abbrev cX0_cost : ByteArray := prog_1_method_4_code
def yX0_cost : MethodName := ⟨RX0, "cost", "(II)Z"⟩
abbrev cX0_wish : ByteArray := prog_1_method_5_code
def yX0_wish : MethodName := ⟨RX0, "wish", "(II)Z"⟩
abbrev cX0_give : ByteArray := prog_1_method_6_code
def yX0_give : MethodName := ⟨RX0, "give", "()I"⟩
abbrev cX0_colour : ByteArray := prog_1_method_7_code
def yX0_colour : MethodName := ⟨RX0, "colour", "(I)I"⟩
abbrev cX0_taken : ByteArray := prog_1_method_8_code
def yX0_taken : MethodName := ⟨RX0, "taken", "(I)I"⟩
abbrev cX0_joined : ByteArray := prog_1_method_9_code
def yX0_joined : MethodName := ⟨RX0, "joined", "(II)Z"⟩
abbrev cX0_degree : ByteArray := prog_1_method_10_code
def yX0_degree : MethodName := ⟨RX0, "degree", "(I)I"⟩
abbrev cX0_strays : ByteArray := prog_1_method_11_code
def yX0_strays : MethodName := ⟨RX0, "strays", "()I"⟩
abbrev cX0_startGraph : ByteArray := prog_1_method_12_code
def yX0_startGraph : MethodName := ⟨RX0, "startGraph", "(II)V"⟩
abbrev cX0_isPoint : ByteArray := prog_1_method_13_code
def yX0_isPoint : MethodName := ⟨RX0, "isPoint", "(I)Z"⟩
abbrev cX0_hasEdge : ByteArray := prog_1_method_14_code
def yX0_hasEdge : MethodName := ⟨RX0, "hasEdge", "(II)Z"⟩
abbrev cX0_addNeighbour : ByteArray := prog_1_method_15_code
def yX0_addNeighbour : MethodName := ⟨RX0, "addNeighbour", "(II)V"⟩
abbrev cX0_wordOf : ByteArray := prog_1_method_16_code
def yX0_wordOf : MethodName := ⟨RX0, "wordOf", "(II)I"⟩
abbrev cX0_bitOf : ByteArray := prog_1_method_17_code
def yX0_bitOf : MethodName := ⟨RX0, "bitOf", "(I)J"⟩
abbrev cX0_takeAllOut : ByteArray := prog_1_method_18_code
def yX0_takeAllOut : MethodName := ⟨RX0, "takeAllOut", "()V"⟩
abbrev cX0_nextOut : ByteArray := prog_1_method_19_code
def yX0_nextOut : MethodName := ⟨RX0, "nextOut", "()I"⟩
abbrev cX0_isCheaper : ByteArray := prog_1_method_20_code
def yX0_isCheaper : MethodName := ⟨RX0, "isCheaper", "(II)Z"⟩
abbrev cX0_takeOut : ByteArray := prog_1_method_21_code
def yX0_takeOut : MethodName := ⟨RX0, "takeOut", "(I)V"⟩
abbrev cX0_putAllBack : ByteArray := prog_1_method_22_code
def yX0_putAllBack : MethodName := ⟨RX0, "putAllBack", "()V"⟩
abbrev cX0_chooseColour : ByteArray := prog_1_method_23_code
def yX0_chooseColour : MethodName := ⟨RX0, "chooseColour", "(I)I"⟩
abbrev cX0_coloursAround : ByteArray := prog_1_method_24_code
def yX0_coloursAround : MethodName := ⟨RX0, "coloursAround", "(I)I"⟩
abbrev cX0_wishedColour : ByteArray := prog_1_method_25_code
def yX0_wishedColour : MethodName := ⟨RX0, "wishedColour", "(I)I"⟩
abbrev cX0_isFree : ByteArray := prog_1_method_26_code
def yX0_isFree : MethodName := ⟨RX0, "isFree", "(II)Z"⟩
abbrev cX0_countColourless : ByteArray := prog_1_method_27_code
def yX0_countColourless : MethodName := ⟨RX0, "countColourless", "()I"⟩
def RX1 : String := "PointColoursModel"
def TX1 : u_T := fun k => match k with
  | 0 => ("PointColoursModel", "pairs", "[Z", true)
  | 1 => ("PointColoursModel", "costs", "[I", true)
  | 2 => ("PointColoursModel", "wishes", "[I", true)
  | 3 => ("PointColoursModel", "colours", "[I", true)
  | 4 => ("PointColoursModel", "row", "[I", true)
  | 5 => ("PointColoursModel", "in", "[Z", true)
  | 6 => ("PointColoursModel", "n", "I", false)
  | 7 => ("PointColoursModel", "k", "I", false)
  | _ => ("PointColoursModel", "given", "Z", false)
def tyX1 : Nat → FieldType := fun k => match k with
  | 0 => .array .boolean
  | 1 => .array .int
  | 2 => .array .int
  | 3 => .array .int
  | 4 => .array .int
  | 5 => .array .boolean
  | 6 => .int
  | 7 => .int
  | _ => .boolean
abbrev wsX10 : List Cond := u_ws RX1 TX1 9
theorem nmX1 : ∀ a, a < 9 → ∀ b, b < 9 → a ≠ b → (TX1 a).2.1 ≠ (TX1 b).2.1 := by decide +kernel
theorem tyX1_ok : ∀ k, k < 9 → parseFieldDescriptor (TX1 k).2.2.1 = some (tyX1 k) := by decide +kernel
abbrev cX1_init : ByteArray := prog_3_method_1_code
def yX1_init : MethodName := ⟨RX1, "<init>", "()V"⟩
abbrev cX1_isPoint : ByteArray := prog_3_method_3_code
def yX1_isPoint : MethodName := ⟨RX1, "isPoint", "(I)Z"⟩
abbrev cX1_begin : ByteArray := prog_3_method_4_code
def yX1_begin : MethodName := ⟨RX1, "begin", "(II)Z"⟩
abbrev cX1_join : ByteArray := prog_3_method_5_code
def yX1_join : MethodName := ⟨RX1, "join", "(II)Z"⟩
abbrev cX1_cost : ByteArray := prog_3_method_6_code
def yX1_cost : MethodName := ⟨RX1, "cost", "(II)Z"⟩
abbrev cX1_wish : ByteArray := prog_3_method_7_code
def yX1_wish : MethodName := ⟨RX1, "wish", "(II)Z"⟩
abbrev cX1_left : ByteArray := prog_3_method_8_code
def yX1_left : MethodName := ⟨RX1, "left", "(I)I"⟩
abbrev cX1_next : ByteArray := prog_3_method_9_code
def yX1_next : MethodName := ⟨RX1, "next", "()I"⟩
abbrev cX1_isFree : ByteArray := prog_3_method_10_code
def yX1_isFree : MethodName := ⟨RX1, "isFree", "(II)Z"⟩
abbrev cX1_colourFor : ByteArray := prog_3_method_11_code
def yX1_colourFor : MethodName := ⟨RX1, "colourFor", "(I)I"⟩
abbrev cX1_give : ByteArray := prog_3_method_12_code
def yX1_give : MethodName := ⟨RX1, "give", "()I"⟩
abbrev cX1_colour : ByteArray := prog_3_method_13_code
def yX1_colour : MethodName := ⟨RX1, "colour", "(I)I"⟩
abbrev cX1_taken : ByteArray := prog_3_method_14_code
def yX1_taken : MethodName := ⟨RX1, "taken", "(I)I"⟩
abbrev cX1_joined : ByteArray := prog_3_method_15_code
def yX1_joined : MethodName := ⟨RX1, "joined", "(II)Z"⟩
abbrev cX1_degree : ByteArray := prog_3_method_16_code
def yX1_degree : MethodName := ⟨RX1, "degree", "(I)I"⟩
abbrev cX1_strays : ByteArray := prog_3_method_17_code
def yX1_strays : MethodName := ⟨RX1, "strays", "()I"⟩
def RJ7 : String := "java/util/Arrays"
def TJ7 : u_T := fun k => match k with
  | _ => ("", "", "", false)
def tyJ7 : Nat → FieldType := fun k => match k with
  | _ => .int
abbrev wsJ70 : List Cond := u_ws RJ7 TJ7 0
theorem nmJ7 : ∀ a, a < 0 → ∀ b, b < 0 → a ≠ b → (TJ7 a).2.1 ≠ (TJ7 b).2.1 := by decide +kernel
theorem tyJ7_ok : ∀ k, k < 0 → parseFieldDescriptor (TJ7 k).2.2.1 = some (tyJ7 k) := by decide +kernel
abbrev cJ7_fill_d0a16 : ByteArray := prog_4_method_101_code
def yJ7_fill_d0a16 : MethodName := ⟨RJ7, "fill", "([JJ)V"⟩
abbrev cJ7_fill_53178 : ByteArray := prog_4_method_103_code
def yJ7_fill_53178 : MethodName := ⟨RJ7, "fill", "([II)V"⟩
def RL : String := "PointColoursLaw"
abbrev cL_law : ByteArray := code
def yL_law : MethodName := ⟨RL, "law", "([I)Z"⟩
def wsJ7_fill_d0a16 : List Cond := .code yJ7_fill_d0a16 cJ7_fill_d0a16 5 none :: ([])
def wsJ7_fill_53178 : List Cond := .code yJ7_fill_53178 cJ7_fill_53178 4 none :: ([])
def wsX0_startGraph : List Cond := .code yX0_startGraph cX0_startGraph 3 none :: ([.fieldLink RX0 66 "PointColours" "points" "I", .fieldLink RX0 70 "PointColours" "colours" "I", .fieldLink RX0 51 "PointColours" "given" "Z", .fieldLink RX0 9 "PointColours" "edges" "[J", .fieldLink RX0 13 "PointColours" "degrees" "[I", .fieldLink RX0 17 "PointColours" "costs" "[I", .fieldLink RX0 20 "PointColours" "wishes" "[I", .methodLink RX0 73 yJ7_fill_d0a16, .static yJ7_fill_d0a16, .initialized RJ7, .code yJ7_fill_d0a16 cJ7_fill_d0a16 5 none, .methodLink RX0 79 yJ7_fill_53178, .static yJ7_fill_53178, .code yJ7_fill_53178 cJ7_fill_53178 4 none] ++ wsX00)
def wsX0_init_r1 : List Cond := [Cond.methodLink RX0 3 objectInit, Cond.instanceMethod objectInit, Cond.code objectInit ⟨#[0xb1]⟩ 1 none, Cond.arrayClass .long, Cond.fieldLink RX0 9 "PointColours" "edges" "[J", Cond.arrayClass .int, Cond.fieldLink RX0 13 "PointColours" "degrees" "[I", Cond.fieldLink RX0 17 "PointColours" "costs" "[I", Cond.fieldLink RX0 20 "PointColours" "wishes" "[I", Cond.fieldLink RX0 23 "PointColours" "order" "[I", Cond.arrayClass .boolean, Cond.fieldLink RX0 26 "PointColours" "isOut" "[Z", Cond.fieldLink RX0 30 "PointColours" "neighboursIn" "[I", Cond.fieldLink RX0 33 "PointColours" "colourOf" "[I", Cond.methodLink RX0 36 yX0_startGraph, Cond.instanceMethod yX0_startGraph, Cond.selects RX0 yX0_startGraph yX0_startGraph, Cond.initialized RX0, Cond.code yX0_startGraph cX0_startGraph 3 none, Cond.fieldLink RX0 66 "PointColours" "points" "I", Cond.fieldLink RX0 70 "PointColours" "colours" "I", Cond.fieldLink RX0 51 "PointColours" "given" "Z", Cond.methodLink RX0 73 yJ7_fill_d0a16, Cond.static yJ7_fill_d0a16]
def wsX0_init_r2 : List Cond := [Cond.initialized RJ7, Cond.code yJ7_fill_d0a16 cJ7_fill_d0a16 5 none, Cond.methodLink RX0 79 yJ7_fill_53178, Cond.static yJ7_fill_53178, Cond.code yJ7_fill_53178 cJ7_fill_53178 4 none]
def wsX0_init : List Cond := .code yX0_init cX0_init 1 none :: ((wsX0_init_r1 ++ wsX0_init_r2) ++ wsX00)
def wsX0_begin : List Cond := .code yX0_begin cX0_begin 3 (some .boolean) :: ([.methodLink RX0 36 yX0_startGraph, .instanceMethod yX0_startGraph, .selects RX0 yX0_startGraph yX0_startGraph, .initialized RX0, .code yX0_startGraph cX0_startGraph 3 none, .fieldLink RX0 66 "PointColours" "points" "I", .fieldLink RX0 70 "PointColours" "colours" "I", .fieldLink RX0 51 "PointColours" "given" "Z", .fieldLink RX0 9 "PointColours" "edges" "[J", .fieldLink RX0 13 "PointColours" "degrees" "[I", .fieldLink RX0 17 "PointColours" "costs" "[I", .fieldLink RX0 20 "PointColours" "wishes" "[I", .methodLink RX0 73 yJ7_fill_d0a16, .static yJ7_fill_d0a16, .initialized RJ7, .code yJ7_fill_d0a16 cJ7_fill_d0a16 5 none, .methodLink RX0 79 yJ7_fill_53178, .static yJ7_fill_53178, .code yJ7_fill_53178 cJ7_fill_53178 4 none] ++ wsX00)
def wsX0_isPoint : List Cond := .code yX0_isPoint cX0_isPoint 2 (some .boolean) :: ([.fieldLink RX0 66 "PointColours" "points" "I"] ++ wsX00)
def wsX0_wordOf : List Cond := .code yX0_wordOf cX0_wordOf 2 (some .int) :: ([])
def wsX0_bitOf : List Cond := .code yX0_bitOf cX0_bitOf 1 (some .long) :: ([])
def wsX0_hasEdge : List Cond := .code yX0_hasEdge cX0_hasEdge 3 (some .boolean) :: ([.fieldLink RX0 9 "PointColours" "edges" "[J", .methodLink RX0 82 yX0_wordOf, .static yX0_wordOf, .initialized RX0, .code yX0_wordOf cX0_wordOf 2 (some .int), .methodLink RX0 86 yX0_bitOf, .static yX0_bitOf, .code yX0_bitOf cX0_bitOf 1 (some .long)] ++ wsX00)
def wsX0_addNeighbour : List Cond := .code yX0_addNeighbour cX0_addNeighbour 3 none :: ([.fieldLink RX0 9 "PointColours" "edges" "[J", .fieldLink RX0 13 "PointColours" "degrees" "[I", .methodLink RX0 82 yX0_wordOf, .static yX0_wordOf, .initialized RX0, .code yX0_wordOf cX0_wordOf 2 (some .int), .methodLink RX0 86 yX0_bitOf, .static yX0_bitOf, .code yX0_bitOf cX0_bitOf 1 (some .long)] ++ wsX00)
def wsX0_join : List Cond := .code yX0_join cX0_join 3 (some .boolean) :: ([.fieldLink RX0 51 "PointColours" "given" "Z", .methodLink RX0 40 yX0_isPoint, .instanceMethod yX0_isPoint, .selects RX0 yX0_isPoint yX0_isPoint, .initialized RX0, .code yX0_isPoint cX0_isPoint 2 (some .boolean), .fieldLink RX0 66 "PointColours" "points" "I", .methodLink RX0 44 yX0_hasEdge, .instanceMethod yX0_hasEdge, .selects RX0 yX0_hasEdge yX0_hasEdge, .code yX0_hasEdge cX0_hasEdge 3 (some .boolean), .fieldLink RX0 9 "PointColours" "edges" "[J", .methodLink RX0 82 yX0_wordOf, .static yX0_wordOf, .code yX0_wordOf cX0_wordOf 2 (some .int), .methodLink RX0 86 yX0_bitOf, .static yX0_bitOf, .code yX0_bitOf cX0_bitOf 1 (some .long), .methodLink RX0 48 yX0_addNeighbour, .instanceMethod yX0_addNeighbour, .selects RX0 yX0_addNeighbour yX0_addNeighbour, .code yX0_addNeighbour cX0_addNeighbour 3 none, .fieldLink RX0 13 "PointColours" "degrees" "[I"] ++ wsX00)
def wsX0_cost : List Cond := .code yX0_cost cX0_cost 3 (some .boolean) :: ([.constant RX0 55 (1000000), .fieldLink RX0 17 "PointColours" "costs" "[I", .fieldLink RX0 51 "PointColours" "given" "Z", .methodLink RX0 40 yX0_isPoint, .instanceMethod yX0_isPoint, .selects RX0 yX0_isPoint yX0_isPoint, .initialized RX0, .code yX0_isPoint cX0_isPoint 2 (some .boolean), .fieldLink RX0 66 "PointColours" "points" "I"] ++ wsX00)
def wsX0_wish : List Cond := .code yX0_wish cX0_wish 3 (some .boolean) :: ([.fieldLink RX0 20 "PointColours" "wishes" "[I", .fieldLink RX0 51 "PointColours" "given" "Z", .methodLink RX0 40 yX0_isPoint, .instanceMethod yX0_isPoint, .selects RX0 yX0_isPoint yX0_isPoint, .initialized RX0, .code yX0_isPoint cX0_isPoint 2 (some .boolean), .fieldLink RX0 66 "PointColours" "points" "I"] ++ wsX00)
def wsX0_isCheaper : List Cond := .code yX0_isCheaper cX0_isCheaper 3 (some .boolean) :: ([.fieldLink RX0 17 "PointColours" "costs" "[I", .fieldLink RX0 30 "PointColours" "neighboursIn" "[I"] ++ wsX00)
def wsX0_nextOut : List Cond := .code yX0_nextOut cX0_nextOut 3 (some .int) :: ([.fieldLink RX0 66 "PointColours" "points" "I", .fieldLink RX0 26 "PointColours" "isOut" "[Z", .fieldLink RX0 30 "PointColours" "neighboursIn" "[I", .fieldLink RX0 70 "PointColours" "colours" "I", .methodLink RX0 97 yX0_isCheaper, .instanceMethod yX0_isCheaper, .selects RX0 yX0_isCheaper yX0_isCheaper, .initialized RX0, .code yX0_isCheaper cX0_isCheaper 3 (some .boolean), .fieldLink RX0 17 "PointColours" "costs" "[I"] ++ wsX00)
def wsX0_takeOut : List Cond := .code yX0_takeOut cX0_takeOut 3 none :: ([.fieldLink RX0 26 "PointColours" "isOut" "[Z", .fieldLink RX0 66 "PointColours" "points" "I", .fieldLink RX0 30 "PointColours" "neighboursIn" "[I", .methodLink RX0 40 yX0_isPoint, .instanceMethod yX0_isPoint, .selects RX0 yX0_isPoint yX0_isPoint, .initialized RX0, .code yX0_isPoint cX0_isPoint 2 (some .boolean), .methodLink RX0 44 yX0_hasEdge, .instanceMethod yX0_hasEdge, .selects RX0 yX0_hasEdge yX0_hasEdge, .code yX0_hasEdge cX0_hasEdge 3 (some .boolean), .fieldLink RX0 9 "PointColours" "edges" "[J", .methodLink RX0 82 yX0_wordOf, .static yX0_wordOf, .code yX0_wordOf cX0_wordOf 2 (some .int), .methodLink RX0 86 yX0_bitOf, .static yX0_bitOf, .code yX0_bitOf cX0_bitOf 1 (some .long)] ++ wsX00)
def wsX0_takeAllOut_r1 : List Cond := [Cond.fieldLink RX0 66 "PointColours" "points" "I", Cond.fieldLink RX0 26 "PointColours" "isOut" "[Z", Cond.fieldLink RX0 30 "PointColours" "neighboursIn" "[I", Cond.fieldLink RX0 13 "PointColours" "degrees" "[I", Cond.fieldLink RX0 23 "PointColours" "order" "[I", Cond.methodLink RX0 90 yX0_nextOut, Cond.instanceMethod yX0_nextOut, Cond.selects RX0 yX0_nextOut yX0_nextOut, Cond.initialized RX0, Cond.code yX0_nextOut cX0_nextOut 3 (some .int), Cond.fieldLink RX0 70 "PointColours" "colours" "I", Cond.methodLink RX0 97 yX0_isCheaper, Cond.instanceMethod yX0_isCheaper, Cond.selects RX0 yX0_isCheaper yX0_isCheaper, Cond.code yX0_isCheaper cX0_isCheaper 3 (some .boolean), Cond.fieldLink RX0 17 "PointColours" "costs" "[I", Cond.methodLink RX0 93 yX0_takeOut, Cond.instanceMethod yX0_takeOut, Cond.selects RX0 yX0_takeOut yX0_takeOut, Cond.code yX0_takeOut cX0_takeOut 3 none, Cond.methodLink RX0 40 yX0_isPoint, Cond.instanceMethod yX0_isPoint, Cond.selects RX0 yX0_isPoint yX0_isPoint, Cond.code yX0_isPoint cX0_isPoint 2 (some .boolean)]
def wsX0_takeAllOut_r2 : List Cond := [Cond.methodLink RX0 44 yX0_hasEdge, Cond.instanceMethod yX0_hasEdge, Cond.selects RX0 yX0_hasEdge yX0_hasEdge, Cond.code yX0_hasEdge cX0_hasEdge 3 (some .boolean), Cond.fieldLink RX0 9 "PointColours" "edges" "[J", Cond.methodLink RX0 82 yX0_wordOf, Cond.static yX0_wordOf, Cond.code yX0_wordOf cX0_wordOf 2 (some .int), Cond.methodLink RX0 86 yX0_bitOf, Cond.static yX0_bitOf, Cond.code yX0_bitOf cX0_bitOf 1 (some .long)]
def wsX0_takeAllOut : List Cond := .code yX0_takeAllOut cX0_takeAllOut 2 none :: ((wsX0_takeAllOut_r1 ++ wsX0_takeAllOut_r2) ++ wsX00)
def wsX0_coloursAround : List Cond := .code yX0_coloursAround cX0_coloursAround 4 (some .int) :: ([.fieldLink RX0 66 "PointColours" "points" "I", .fieldLink RX0 33 "PointColours" "colourOf" "[I", .methodLink RX0 44 yX0_hasEdge, .instanceMethod yX0_hasEdge, .selects RX0 yX0_hasEdge yX0_hasEdge, .initialized RX0, .code yX0_hasEdge cX0_hasEdge 3 (some .boolean), .fieldLink RX0 9 "PointColours" "edges" "[J", .methodLink RX0 82 yX0_wordOf, .static yX0_wordOf, .code yX0_wordOf cX0_wordOf 2 (some .int), .methodLink RX0 86 yX0_bitOf, .static yX0_bitOf, .code yX0_bitOf cX0_bitOf 1 (some .long)] ++ wsX00)
def wsX0_wishedColour : List Cond := .code yX0_wishedColour cX0_wishedColour 3 (some .int) :: ([.fieldLink RX0 20 "PointColours" "wishes" "[I", .fieldLink RX0 33 "PointColours" "colourOf" "[I", .methodLink RX0 40 yX0_isPoint, .instanceMethod yX0_isPoint, .selects RX0 yX0_isPoint yX0_isPoint, .initialized RX0, .code yX0_isPoint cX0_isPoint 2 (some .boolean), .fieldLink RX0 66 "PointColours" "points" "I"] ++ wsX00)
def wsX0_isFree : List Cond := .code yX0_isFree cX0_isFree 2 (some .boolean) :: ([])
def wsX0_chooseColour_r1 : List Cond := [Cond.fieldLink RX0 70 "PointColours" "colours" "I", Cond.methodLink RX0 104 yX0_coloursAround, Cond.instanceMethod yX0_coloursAround, Cond.selects RX0 yX0_coloursAround yX0_coloursAround, Cond.initialized RX0, Cond.code yX0_coloursAround cX0_coloursAround 4 (some .int), Cond.fieldLink RX0 66 "PointColours" "points" "I", Cond.fieldLink RX0 33 "PointColours" "colourOf" "[I", Cond.methodLink RX0 44 yX0_hasEdge, Cond.instanceMethod yX0_hasEdge, Cond.selects RX0 yX0_hasEdge yX0_hasEdge, Cond.code yX0_hasEdge cX0_hasEdge 3 (some .boolean), Cond.fieldLink RX0 9 "PointColours" "edges" "[J", Cond.methodLink RX0 82 yX0_wordOf, Cond.static yX0_wordOf, Cond.code yX0_wordOf cX0_wordOf 2 (some .int), Cond.methodLink RX0 86 yX0_bitOf, Cond.static yX0_bitOf, Cond.code yX0_bitOf cX0_bitOf 1 (some .long), Cond.methodLink RX0 107 yX0_wishedColour, Cond.instanceMethod yX0_wishedColour, Cond.selects RX0 yX0_wishedColour yX0_wishedColour, Cond.code yX0_wishedColour cX0_wishedColour 3 (some .int), Cond.fieldLink RX0 20 "PointColours" "wishes" "[I"]
def wsX0_chooseColour_r2 : List Cond := [Cond.methodLink RX0 40 yX0_isPoint, Cond.instanceMethod yX0_isPoint, Cond.selects RX0 yX0_isPoint yX0_isPoint, Cond.code yX0_isPoint cX0_isPoint 2 (some .boolean), Cond.methodLink RX0 110 yX0_isFree, Cond.static yX0_isFree, Cond.code yX0_isFree cX0_isFree 2 (some .boolean)]
def wsX0_chooseColour : List Cond := .code yX0_chooseColour cX0_chooseColour 5 (some .int) :: ((wsX0_chooseColour_r1 ++ wsX0_chooseColour_r2) ++ wsX00)
def wsX0_putAllBack_r1 : List Cond := [Cond.fieldLink RX0 33 "PointColours" "colourOf" "[I", Cond.fieldLink RX0 66 "PointColours" "points" "I", Cond.fieldLink RX0 23 "PointColours" "order" "[I", Cond.methodLink RX0 79 yJ7_fill_53178, Cond.static yJ7_fill_53178, Cond.initialized RJ7, Cond.code yJ7_fill_53178 cJ7_fill_53178 4 none, Cond.methodLink RX0 40 yX0_isPoint, Cond.instanceMethod yX0_isPoint, Cond.selects RX0 yX0_isPoint yX0_isPoint, Cond.initialized RX0, Cond.code yX0_isPoint cX0_isPoint 2 (some .boolean), Cond.methodLink RX0 100 yX0_chooseColour, Cond.instanceMethod yX0_chooseColour, Cond.selects RX0 yX0_chooseColour yX0_chooseColour, Cond.code yX0_chooseColour cX0_chooseColour 5 (some .int), Cond.fieldLink RX0 70 "PointColours" "colours" "I", Cond.methodLink RX0 104 yX0_coloursAround, Cond.instanceMethod yX0_coloursAround, Cond.selects RX0 yX0_coloursAround yX0_coloursAround, Cond.code yX0_coloursAround cX0_coloursAround 4 (some .int), Cond.methodLink RX0 44 yX0_hasEdge, Cond.instanceMethod yX0_hasEdge, Cond.selects RX0 yX0_hasEdge yX0_hasEdge]
def wsX0_putAllBack_r2 : List Cond := [Cond.code yX0_hasEdge cX0_hasEdge 3 (some .boolean), Cond.fieldLink RX0 9 "PointColours" "edges" "[J", Cond.methodLink RX0 82 yX0_wordOf, Cond.static yX0_wordOf, Cond.code yX0_wordOf cX0_wordOf 2 (some .int), Cond.methodLink RX0 86 yX0_bitOf, Cond.static yX0_bitOf, Cond.code yX0_bitOf cX0_bitOf 1 (some .long), Cond.methodLink RX0 107 yX0_wishedColour, Cond.instanceMethod yX0_wishedColour, Cond.selects RX0 yX0_wishedColour yX0_wishedColour, Cond.code yX0_wishedColour cX0_wishedColour 3 (some .int), Cond.fieldLink RX0 20 "PointColours" "wishes" "[I", Cond.methodLink RX0 110 yX0_isFree, Cond.static yX0_isFree, Cond.code yX0_isFree cX0_isFree 2 (some .boolean)]
def wsX0_putAllBack : List Cond := .code yX0_putAllBack cX0_putAllBack 3 none :: ((wsX0_putAllBack_r1 ++ wsX0_putAllBack_r2) ++ wsX00)
def wsX0_countColourless : List Cond := .code yX0_countColourless cX0_countColourless 3 (some .int) :: ([.fieldLink RX0 66 "PointColours" "points" "I", .fieldLink RX0 33 "PointColours" "colourOf" "[I"] ++ wsX00)
def wsX0_give_r1 : List Cond := [Cond.fieldLink RX0 51 "PointColours" "given" "Z", Cond.methodLink RX0 56 yX0_takeAllOut, Cond.instanceMethod yX0_takeAllOut, Cond.selects RX0 yX0_takeAllOut yX0_takeAllOut, Cond.initialized RX0, Cond.code yX0_takeAllOut cX0_takeAllOut 2 none, Cond.fieldLink RX0 66 "PointColours" "points" "I", Cond.fieldLink RX0 26 "PointColours" "isOut" "[Z", Cond.fieldLink RX0 30 "PointColours" "neighboursIn" "[I", Cond.fieldLink RX0 13 "PointColours" "degrees" "[I", Cond.fieldLink RX0 23 "PointColours" "order" "[I", Cond.methodLink RX0 90 yX0_nextOut, Cond.instanceMethod yX0_nextOut, Cond.selects RX0 yX0_nextOut yX0_nextOut, Cond.code yX0_nextOut cX0_nextOut 3 (some .int), Cond.fieldLink RX0 70 "PointColours" "colours" "I", Cond.methodLink RX0 97 yX0_isCheaper, Cond.instanceMethod yX0_isCheaper, Cond.selects RX0 yX0_isCheaper yX0_isCheaper, Cond.code yX0_isCheaper cX0_isCheaper 3 (some .boolean), Cond.fieldLink RX0 17 "PointColours" "costs" "[I", Cond.methodLink RX0 93 yX0_takeOut, Cond.instanceMethod yX0_takeOut, Cond.selects RX0 yX0_takeOut yX0_takeOut]
def wsX0_give_r2 : List Cond := [Cond.code yX0_takeOut cX0_takeOut 3 none, Cond.methodLink RX0 40 yX0_isPoint, Cond.instanceMethod yX0_isPoint, Cond.selects RX0 yX0_isPoint yX0_isPoint, Cond.code yX0_isPoint cX0_isPoint 2 (some .boolean), Cond.methodLink RX0 44 yX0_hasEdge, Cond.instanceMethod yX0_hasEdge, Cond.selects RX0 yX0_hasEdge yX0_hasEdge, Cond.code yX0_hasEdge cX0_hasEdge 3 (some .boolean), Cond.fieldLink RX0 9 "PointColours" "edges" "[J", Cond.methodLink RX0 82 yX0_wordOf, Cond.static yX0_wordOf, Cond.code yX0_wordOf cX0_wordOf 2 (some .int), Cond.methodLink RX0 86 yX0_bitOf, Cond.static yX0_bitOf, Cond.code yX0_bitOf cX0_bitOf 1 (some .long), Cond.methodLink RX0 59 yX0_putAllBack, Cond.instanceMethod yX0_putAllBack, Cond.selects RX0 yX0_putAllBack yX0_putAllBack, Cond.code yX0_putAllBack cX0_putAllBack 3 none, Cond.fieldLink RX0 33 "PointColours" "colourOf" "[I", Cond.methodLink RX0 79 yJ7_fill_53178, Cond.static yJ7_fill_53178, Cond.initialized RJ7]
def wsX0_give_r3 : List Cond := [Cond.code yJ7_fill_53178 cJ7_fill_53178 4 none, Cond.methodLink RX0 100 yX0_chooseColour, Cond.instanceMethod yX0_chooseColour, Cond.selects RX0 yX0_chooseColour yX0_chooseColour, Cond.code yX0_chooseColour cX0_chooseColour 5 (some .int), Cond.methodLink RX0 104 yX0_coloursAround, Cond.instanceMethod yX0_coloursAround, Cond.selects RX0 yX0_coloursAround yX0_coloursAround, Cond.code yX0_coloursAround cX0_coloursAround 4 (some .int), Cond.methodLink RX0 107 yX0_wishedColour, Cond.instanceMethod yX0_wishedColour, Cond.selects RX0 yX0_wishedColour yX0_wishedColour, Cond.code yX0_wishedColour cX0_wishedColour 3 (some .int), Cond.fieldLink RX0 20 "PointColours" "wishes" "[I", Cond.methodLink RX0 110 yX0_isFree, Cond.static yX0_isFree, Cond.code yX0_isFree cX0_isFree 2 (some .boolean), Cond.methodLink RX0 62 yX0_countColourless, Cond.instanceMethod yX0_countColourless, Cond.selects RX0 yX0_countColourless yX0_countColourless, Cond.code yX0_countColourless cX0_countColourless 3 (some .int)]
def wsX0_give : List Cond := .code yX0_give cX0_give 1 (some .int) :: ((wsX0_give_r1 ++ (wsX0_give_r2 ++ wsX0_give_r3)) ++ wsX00)
def wsX0_colour : List Cond := .code yX0_colour cX0_colour 2 (some .int) :: ([.fieldLink RX0 51 "PointColours" "given" "Z", .fieldLink RX0 33 "PointColours" "colourOf" "[I", .methodLink RX0 40 yX0_isPoint, .instanceMethod yX0_isPoint, .selects RX0 yX0_isPoint yX0_isPoint, .initialized RX0, .code yX0_isPoint cX0_isPoint 2 (some .boolean), .fieldLink RX0 66 "PointColours" "points" "I"] ++ wsX00)
def wsX0_taken : List Cond := .code yX0_taken cX0_taken 2 (some .int) :: ([.fieldLink RX0 51 "PointColours" "given" "Z", .fieldLink RX0 23 "PointColours" "order" "[I", .methodLink RX0 40 yX0_isPoint, .instanceMethod yX0_isPoint, .selects RX0 yX0_isPoint yX0_isPoint, .initialized RX0, .code yX0_isPoint cX0_isPoint 2 (some .boolean), .fieldLink RX0 66 "PointColours" "points" "I"] ++ wsX00)
def wsX0_joined : List Cond := .code yX0_joined cX0_joined 3 (some .boolean) :: ([.methodLink RX0 40 yX0_isPoint, .instanceMethod yX0_isPoint, .selects RX0 yX0_isPoint yX0_isPoint, .initialized RX0, .code yX0_isPoint cX0_isPoint 2 (some .boolean), .fieldLink RX0 66 "PointColours" "points" "I", .methodLink RX0 44 yX0_hasEdge, .instanceMethod yX0_hasEdge, .selects RX0 yX0_hasEdge yX0_hasEdge, .code yX0_hasEdge cX0_hasEdge 3 (some .boolean), .fieldLink RX0 9 "PointColours" "edges" "[J", .methodLink RX0 82 yX0_wordOf, .static yX0_wordOf, .code yX0_wordOf cX0_wordOf 2 (some .int), .methodLink RX0 86 yX0_bitOf, .static yX0_bitOf, .code yX0_bitOf cX0_bitOf 1 (some .long)] ++ wsX00)
def wsX0_degree : List Cond := .code yX0_degree cX0_degree 2 (some .int) :: ([.fieldLink RX0 13 "PointColours" "degrees" "[I", .methodLink RX0 40 yX0_isPoint, .instanceMethod yX0_isPoint, .selects RX0 yX0_isPoint yX0_isPoint, .initialized RX0, .code yX0_isPoint cX0_isPoint 2 (some .boolean), .fieldLink RX0 66 "PointColours" "points" "I"] ++ wsX00)
def wsX0_strays : List Cond := .code yX0_strays cX0_strays 4 (some .int) :: ([.fieldLink RX0 51 "PointColours" "given" "Z", .fieldLink RX0 66 "PointColours" "points" "I", .fieldLink RX0 33 "PointColours" "colourOf" "[I", .methodLink RX0 44 yX0_hasEdge, .instanceMethod yX0_hasEdge, .selects RX0 yX0_hasEdge yX0_hasEdge, .initialized RX0, .code yX0_hasEdge cX0_hasEdge 3 (some .boolean), .fieldLink RX0 9 "PointColours" "edges" "[J", .methodLink RX0 82 yX0_wordOf, .static yX0_wordOf, .code yX0_wordOf cX0_wordOf 2 (some .int), .methodLink RX0 86 yX0_bitOf, .static yX0_bitOf, .code yX0_bitOf cX0_bitOf 1 (some .long)] ++ wsX00)
def wsX1_begin : List Cond := .code yX1_begin cX1_begin 5 (some .boolean) :: ([.fieldLink RX1 34 "PointColoursModel" "n" "I", .fieldLink RX1 38 "PointColoursModel" "k" "I", .fieldLink RX1 41 "PointColoursModel" "given" "Z", .fieldLink RX1 14 "PointColoursModel" "costs" "[I", .fieldLink RX1 18 "PointColoursModel" "wishes" "[I", .fieldLink RX1 10 "PointColoursModel" "pairs" "[Z"] ++ wsX10)
def wsX1_init : List Cond := .code yX1_init cX1_init 2 none :: ([.methodLink RX1 1 objectInit, .instanceMethod objectInit, .code objectInit ⟨#[0xb1]⟩ 1 none, .constant RX1 9 (40000), .arrayClass .boolean, .fieldLink RX1 10 "PointColoursModel" "pairs" "[Z", .arrayClass .int, .fieldLink RX1 14 "PointColoursModel" "costs" "[I", .fieldLink RX1 18 "PointColoursModel" "wishes" "[I", .fieldLink RX1 21 "PointColoursModel" "colours" "[I", .fieldLink RX1 24 "PointColoursModel" "row" "[I", .fieldLink RX1 27 "PointColoursModel" "in" "[Z", .methodLink RX1 30 yX1_begin, .instanceMethod yX1_begin, .selects RX1 yX1_begin yX1_begin, .initialized RX1, .code yX1_begin cX1_begin 5 (some .boolean), .fieldLink RX1 34 "PointColoursModel" "n" "I", .fieldLink RX1 38 "PointColoursModel" "k" "I", .fieldLink RX1 41 "PointColoursModel" "given" "Z"] ++ wsX10)
def wsX1_isPoint : List Cond := .code yX1_isPoint cX1_isPoint 2 (some .boolean) :: ([.fieldLink RX1 34 "PointColoursModel" "n" "I"] ++ wsX10)
def wsX1_join : List Cond := .code yX1_join cX1_join 3 (some .boolean) :: ([.fieldLink RX1 10 "PointColoursModel" "pairs" "[Z", .fieldLink RX1 41 "PointColoursModel" "given" "Z", .methodLink RX1 45 yX1_isPoint, .instanceMethod yX1_isPoint, .selects RX1 yX1_isPoint yX1_isPoint, .initialized RX1, .code yX1_isPoint cX1_isPoint 2 (some .boolean), .fieldLink RX1 34 "PointColoursModel" "n" "I"] ++ wsX10)
def wsX1_cost : List Cond := .code yX1_cost cX1_cost 3 (some .boolean) :: ([.constant RX1 49 (1000000), .fieldLink RX1 14 "PointColoursModel" "costs" "[I", .fieldLink RX1 41 "PointColoursModel" "given" "Z", .methodLink RX1 45 yX1_isPoint, .instanceMethod yX1_isPoint, .selects RX1 yX1_isPoint yX1_isPoint, .initialized RX1, .code yX1_isPoint cX1_isPoint 2 (some .boolean), .fieldLink RX1 34 "PointColoursModel" "n" "I"] ++ wsX10)
def wsX1_wish : List Cond := .code yX1_wish cX1_wish 3 (some .boolean) :: ([.fieldLink RX1 18 "PointColoursModel" "wishes" "[I", .fieldLink RX1 41 "PointColoursModel" "given" "Z", .methodLink RX1 45 yX1_isPoint, .instanceMethod yX1_isPoint, .selects RX1 yX1_isPoint yX1_isPoint, .initialized RX1, .code yX1_isPoint cX1_isPoint 2 (some .boolean), .fieldLink RX1 34 "PointColoursModel" "n" "I"] ++ wsX10)
def wsX1_left : List Cond := .code yX1_left cX1_left 4 (some .int) :: ([.fieldLink RX1 34 "PointColoursModel" "n" "I", .fieldLink RX1 27 "PointColoursModel" "in" "[Z", .fieldLink RX1 10 "PointColoursModel" "pairs" "[Z"] ++ wsX10)
def wsX1_next : List Cond := .code yX1_next cX1_next 3 (some .int) :: ([.fieldLink RX1 34 "PointColoursModel" "n" "I", .fieldLink RX1 27 "PointColoursModel" "in" "[Z", .fieldLink RX1 38 "PointColoursModel" "k" "I", .fieldLink RX1 14 "PointColoursModel" "costs" "[I", .methodLink RX1 50 yX1_left, .instanceMethod yX1_left, .selects RX1 yX1_left yX1_left, .initialized RX1, .code yX1_left cX1_left 4 (some .int), .fieldLink RX1 10 "PointColoursModel" "pairs" "[Z"] ++ wsX10)
def wsX1_isFree : List Cond := .code yX1_isFree cX1_isFree 4 (some .boolean) :: ([.fieldLink RX1 34 "PointColoursModel" "n" "I", .fieldLink RX1 10 "PointColoursModel" "pairs" "[Z", .fieldLink RX1 21 "PointColoursModel" "colours" "[I"] ++ wsX10)
def wsX1_colourFor : List Cond := .code yX1_colourFor cX1_colourFor 4 (some .int) :: ([.fieldLink RX1 18 "PointColoursModel" "wishes" "[I", .fieldLink RX1 21 "PointColoursModel" "colours" "[I", .fieldLink RX1 38 "PointColoursModel" "k" "I", .methodLink RX1 54 yX1_isFree, .instanceMethod yX1_isFree, .selects RX1 yX1_isFree yX1_isFree, .initialized RX1, .code yX1_isFree cX1_isFree 4 (some .boolean), .fieldLink RX1 34 "PointColoursModel" "n" "I", .fieldLink RX1 10 "PointColoursModel" "pairs" "[Z"] ++ wsX10)
def wsX1_give_r1 : List Cond := [Cond.fieldLink RX1 34 "PointColoursModel" "n" "I", Cond.fieldLink RX1 27 "PointColoursModel" "in" "[Z", Cond.fieldLink RX1 21 "PointColoursModel" "colours" "[I", Cond.fieldLink RX1 24 "PointColoursModel" "row" "[I", Cond.fieldLink RX1 41 "PointColoursModel" "given" "Z", Cond.methodLink RX1 57 yX1_next, Cond.instanceMethod yX1_next, Cond.selects RX1 yX1_next yX1_next, Cond.initialized RX1, Cond.code yX1_next cX1_next 3 (some .int), Cond.fieldLink RX1 38 "PointColoursModel" "k" "I", Cond.fieldLink RX1 14 "PointColoursModel" "costs" "[I", Cond.methodLink RX1 50 yX1_left, Cond.instanceMethod yX1_left, Cond.selects RX1 yX1_left yX1_left, Cond.code yX1_left cX1_left 4 (some .int), Cond.fieldLink RX1 10 "PointColoursModel" "pairs" "[Z", Cond.methodLink RX1 61 yX1_colourFor, Cond.instanceMethod yX1_colourFor, Cond.selects RX1 yX1_colourFor yX1_colourFor, Cond.code yX1_colourFor cX1_colourFor 4 (some .int), Cond.fieldLink RX1 18 "PointColoursModel" "wishes" "[I", Cond.methodLink RX1 54 yX1_isFree, Cond.instanceMethod yX1_isFree]
def wsX1_give_r2 : List Cond := [Cond.selects RX1 yX1_isFree yX1_isFree, Cond.code yX1_isFree cX1_isFree 4 (some .boolean)]
def wsX1_give : List Cond := .code yX1_give cX1_give 3 (some .int) :: ((wsX1_give_r1 ++ wsX1_give_r2) ++ wsX10)
def wsX1_colour : List Cond := .code yX1_colour cX1_colour 2 (some .int) :: ([.fieldLink RX1 41 "PointColoursModel" "given" "Z", .fieldLink RX1 21 "PointColoursModel" "colours" "[I", .methodLink RX1 45 yX1_isPoint, .instanceMethod yX1_isPoint, .selects RX1 yX1_isPoint yX1_isPoint, .initialized RX1, .code yX1_isPoint cX1_isPoint 2 (some .boolean), .fieldLink RX1 34 "PointColoursModel" "n" "I"] ++ wsX10)
def wsX1_taken : List Cond := .code yX1_taken cX1_taken 2 (some .int) :: ([.fieldLink RX1 41 "PointColoursModel" "given" "Z", .fieldLink RX1 24 "PointColoursModel" "row" "[I", .methodLink RX1 45 yX1_isPoint, .instanceMethod yX1_isPoint, .selects RX1 yX1_isPoint yX1_isPoint, .initialized RX1, .code yX1_isPoint cX1_isPoint 2 (some .boolean), .fieldLink RX1 34 "PointColoursModel" "n" "I"] ++ wsX10)
def wsX1_joined : List Cond := .code yX1_joined cX1_joined 3 (some .boolean) :: ([.fieldLink RX1 10 "PointColoursModel" "pairs" "[Z", .methodLink RX1 45 yX1_isPoint, .instanceMethod yX1_isPoint, .selects RX1 yX1_isPoint yX1_isPoint, .initialized RX1, .code yX1_isPoint cX1_isPoint 2 (some .boolean), .fieldLink RX1 34 "PointColoursModel" "n" "I"] ++ wsX10)
def wsX1_degree : List Cond := .code yX1_degree cX1_degree 4 (some .int) :: ([.fieldLink RX1 34 "PointColoursModel" "n" "I", .fieldLink RX1 10 "PointColoursModel" "pairs" "[Z", .methodLink RX1 45 yX1_isPoint, .instanceMethod yX1_isPoint, .selects RX1 yX1_isPoint yX1_isPoint, .initialized RX1, .code yX1_isPoint cX1_isPoint 2 (some .boolean)] ++ wsX10)
def wsX1_strays : List Cond := .code yX1_strays cX1_strays 4 (some .int) :: ([.fieldLink RX1 34 "PointColoursModel" "n" "I", .fieldLink RX1 41 "PointColoursModel" "given" "Z", .fieldLink RX1 10 "PointColoursModel" "pairs" "[Z", .fieldLink RX1 21 "PointColoursModel" "colours" "[I"] ++ wsX10)
def wsL_law_r1 : List Cond := [Cond.classLink RL 7 RX0, Cond.instantiable RX0 11, Cond.initialized RX0, Cond.classLink RL 10 RX1, Cond.instantiable RX1 9, Cond.initialized RX1, Cond.methodLink RL 9 yX0_init, Cond.instanceMethod yX0_init, Cond.code yX0_init cX0_init 1 none, Cond.methodLink RX0 3 objectInit, Cond.instanceMethod objectInit, Cond.code objectInit ⟨#[0xb1]⟩ 1 none, Cond.arrayClass .long, Cond.fieldLink RX0 9 "PointColours" "edges" "[J", Cond.arrayClass .int, Cond.fieldLink RX0 13 "PointColours" "degrees" "[I", Cond.fieldLink RX0 17 "PointColours" "costs" "[I", Cond.fieldLink RX0 20 "PointColours" "wishes" "[I", Cond.fieldLink RX0 23 "PointColours" "order" "[I", Cond.arrayClass .boolean, Cond.fieldLink RX0 26 "PointColours" "isOut" "[Z", Cond.fieldLink RX0 30 "PointColours" "neighboursIn" "[I", Cond.fieldLink RX0 33 "PointColours" "colourOf" "[I", Cond.methodLink RX0 36 yX0_startGraph]
def wsL_law_r2 : List Cond := [Cond.instanceMethod yX0_startGraph, Cond.selects RX0 yX0_startGraph yX0_startGraph, Cond.code yX0_startGraph cX0_startGraph 3 none, Cond.fieldLink RX0 66 "PointColours" "points" "I", Cond.fieldLink RX0 70 "PointColours" "colours" "I", Cond.fieldLink RX0 51 "PointColours" "given" "Z", Cond.methodLink RX0 73 yJ7_fill_d0a16, Cond.static yJ7_fill_d0a16, Cond.initialized RJ7, Cond.code yJ7_fill_d0a16 cJ7_fill_d0a16 5 none, Cond.methodLink RX0 79 yJ7_fill_53178, Cond.static yJ7_fill_53178, Cond.code yJ7_fill_53178 cJ7_fill_53178 4 none, Cond.methodLink RL 12 yX1_init, Cond.instanceMethod yX1_init, Cond.code yX1_init cX1_init 2 none, Cond.methodLink RX1 1 objectInit, Cond.constant RX1 9 (40000), Cond.fieldLink RX1 10 "PointColoursModel" "pairs" "[Z", Cond.fieldLink RX1 14 "PointColoursModel" "costs" "[I", Cond.fieldLink RX1 18 "PointColoursModel" "wishes" "[I", Cond.fieldLink RX1 21 "PointColoursModel" "colours" "[I", Cond.fieldLink RX1 24 "PointColoursModel" "row" "[I", Cond.fieldLink RX1 27 "PointColoursModel" "in" "[Z"]
def wsL_law_r3 : List Cond := [Cond.methodLink RX1 30 yX1_begin, Cond.instanceMethod yX1_begin, Cond.selects RX1 yX1_begin yX1_begin, Cond.code yX1_begin cX1_begin 5 (some .boolean), Cond.fieldLink RX1 34 "PointColoursModel" "n" "I", Cond.fieldLink RX1 38 "PointColoursModel" "k" "I", Cond.fieldLink RX1 41 "PointColoursModel" "given" "Z", Cond.methodLink RL 13 yX0_begin, Cond.instanceMethod yX0_begin, Cond.selects RX0 yX0_begin yX0_begin, Cond.code yX0_begin cX0_begin 3 (some .boolean), Cond.methodLink RL 17 yX1_begin, Cond.methodLink RL 18 yX0_join, Cond.instanceMethod yX0_join, Cond.selects RX0 yX0_join yX0_join, Cond.code yX0_join cX0_join 3 (some .boolean), Cond.methodLink RX0 40 yX0_isPoint, Cond.instanceMethod yX0_isPoint, Cond.selects RX0 yX0_isPoint yX0_isPoint, Cond.code yX0_isPoint cX0_isPoint 2 (some .boolean), Cond.methodLink RX0 44 yX0_hasEdge, Cond.instanceMethod yX0_hasEdge, Cond.selects RX0 yX0_hasEdge yX0_hasEdge, Cond.code yX0_hasEdge cX0_hasEdge 3 (some .boolean)]
def wsL_law_r4 : List Cond := [Cond.methodLink RX0 82 yX0_wordOf, Cond.static yX0_wordOf, Cond.code yX0_wordOf cX0_wordOf 2 (some .int), Cond.methodLink RX0 86 yX0_bitOf, Cond.static yX0_bitOf, Cond.code yX0_bitOf cX0_bitOf 1 (some .long), Cond.methodLink RX0 48 yX0_addNeighbour, Cond.instanceMethod yX0_addNeighbour, Cond.selects RX0 yX0_addNeighbour yX0_addNeighbour, Cond.code yX0_addNeighbour cX0_addNeighbour 3 none, Cond.methodLink RL 21 yX1_join, Cond.instanceMethod yX1_join, Cond.selects RX1 yX1_join yX1_join, Cond.code yX1_join cX1_join 3 (some .boolean), Cond.methodLink RX1 45 yX1_isPoint, Cond.instanceMethod yX1_isPoint, Cond.selects RX1 yX1_isPoint yX1_isPoint, Cond.code yX1_isPoint cX1_isPoint 2 (some .boolean), Cond.methodLink RL 22 yX0_cost, Cond.instanceMethod yX0_cost, Cond.selects RX0 yX0_cost yX0_cost, Cond.code yX0_cost cX0_cost 3 (some .boolean), Cond.constant RX0 55 (1000000), Cond.methodLink RL 25 yX1_cost]
def wsL_law_r5 : List Cond := [Cond.instanceMethod yX1_cost, Cond.selects RX1 yX1_cost yX1_cost, Cond.code yX1_cost cX1_cost 3 (some .boolean), Cond.constant RX1 49 (1000000), Cond.methodLink RL 26 yX0_wish, Cond.instanceMethod yX0_wish, Cond.selects RX0 yX0_wish yX0_wish, Cond.code yX0_wish cX0_wish 3 (some .boolean), Cond.methodLink RL 29 yX1_wish, Cond.instanceMethod yX1_wish, Cond.selects RX1 yX1_wish yX1_wish, Cond.code yX1_wish cX1_wish 3 (some .boolean), Cond.methodLink RL 30 yX0_give, Cond.instanceMethod yX0_give, Cond.selects RX0 yX0_give yX0_give, Cond.code yX0_give cX0_give 1 (some .int), Cond.methodLink RX0 56 yX0_takeAllOut, Cond.instanceMethod yX0_takeAllOut, Cond.selects RX0 yX0_takeAllOut yX0_takeAllOut, Cond.code yX0_takeAllOut cX0_takeAllOut 2 none, Cond.methodLink RX0 90 yX0_nextOut, Cond.instanceMethod yX0_nextOut, Cond.selects RX0 yX0_nextOut yX0_nextOut, Cond.code yX0_nextOut cX0_nextOut 3 (some .int)]
def wsL_law_r6 : List Cond := [Cond.methodLink RX0 97 yX0_isCheaper, Cond.instanceMethod yX0_isCheaper, Cond.selects RX0 yX0_isCheaper yX0_isCheaper, Cond.code yX0_isCheaper cX0_isCheaper 3 (some .boolean), Cond.methodLink RX0 93 yX0_takeOut, Cond.instanceMethod yX0_takeOut, Cond.selects RX0 yX0_takeOut yX0_takeOut, Cond.code yX0_takeOut cX0_takeOut 3 none, Cond.methodLink RX0 59 yX0_putAllBack, Cond.instanceMethod yX0_putAllBack, Cond.selects RX0 yX0_putAllBack yX0_putAllBack, Cond.code yX0_putAllBack cX0_putAllBack 3 none, Cond.methodLink RX0 100 yX0_chooseColour, Cond.instanceMethod yX0_chooseColour, Cond.selects RX0 yX0_chooseColour yX0_chooseColour, Cond.code yX0_chooseColour cX0_chooseColour 5 (some .int), Cond.methodLink RX0 104 yX0_coloursAround, Cond.instanceMethod yX0_coloursAround, Cond.selects RX0 yX0_coloursAround yX0_coloursAround, Cond.code yX0_coloursAround cX0_coloursAround 4 (some .int), Cond.methodLink RX0 107 yX0_wishedColour, Cond.instanceMethod yX0_wishedColour, Cond.selects RX0 yX0_wishedColour yX0_wishedColour, Cond.code yX0_wishedColour cX0_wishedColour 3 (some .int)]
def wsL_law_r7 : List Cond := [Cond.methodLink RX0 110 yX0_isFree, Cond.static yX0_isFree, Cond.code yX0_isFree cX0_isFree 2 (some .boolean), Cond.methodLink RX0 62 yX0_countColourless, Cond.instanceMethod yX0_countColourless, Cond.selects RX0 yX0_countColourless yX0_countColourless, Cond.code yX0_countColourless cX0_countColourless 3 (some .int), Cond.methodLink RL 34 yX1_give, Cond.instanceMethod yX1_give, Cond.selects RX1 yX1_give yX1_give, Cond.code yX1_give cX1_give 3 (some .int), Cond.methodLink RX1 57 yX1_next, Cond.instanceMethod yX1_next, Cond.selects RX1 yX1_next yX1_next, Cond.code yX1_next cX1_next 3 (some .int), Cond.methodLink RX1 50 yX1_left, Cond.instanceMethod yX1_left, Cond.selects RX1 yX1_left yX1_left, Cond.code yX1_left cX1_left 4 (some .int), Cond.methodLink RX1 61 yX1_colourFor, Cond.instanceMethod yX1_colourFor, Cond.selects RX1 yX1_colourFor yX1_colourFor, Cond.code yX1_colourFor cX1_colourFor 4 (some .int), Cond.methodLink RX1 54 yX1_isFree]
def wsL_law_r8 : List Cond := [Cond.instanceMethod yX1_isFree, Cond.selects RX1 yX1_isFree yX1_isFree, Cond.code yX1_isFree cX1_isFree 4 (some .boolean), Cond.methodLink RL 35 yX0_colour, Cond.instanceMethod yX0_colour, Cond.selects RX0 yX0_colour yX0_colour, Cond.code yX0_colour cX0_colour 2 (some .int), Cond.methodLink RL 39 yX1_colour, Cond.instanceMethod yX1_colour, Cond.selects RX1 yX1_colour yX1_colour, Cond.code yX1_colour cX1_colour 2 (some .int), Cond.methodLink RL 40 yX0_taken, Cond.instanceMethod yX0_taken, Cond.selects RX0 yX0_taken yX0_taken, Cond.code yX0_taken cX0_taken 2 (some .int), Cond.methodLink RL 43 yX1_taken, Cond.instanceMethod yX1_taken, Cond.selects RX1 yX1_taken yX1_taken, Cond.code yX1_taken cX1_taken 2 (some .int), Cond.methodLink RL 44 yX0_joined, Cond.instanceMethod yX0_joined, Cond.selects RX0 yX0_joined yX0_joined, Cond.code yX0_joined cX0_joined 3 (some .boolean), Cond.methodLink RL 47 yX1_joined]
def wsL_law_r9 : List Cond := [Cond.instanceMethod yX1_joined, Cond.selects RX1 yX1_joined yX1_joined, Cond.code yX1_joined cX1_joined 3 (some .boolean), Cond.methodLink RL 48 yX0_degree, Cond.instanceMethod yX0_degree, Cond.selects RX0 yX0_degree yX0_degree, Cond.code yX0_degree cX0_degree 2 (some .int), Cond.methodLink RL 51 yX1_degree, Cond.instanceMethod yX1_degree, Cond.selects RX1 yX1_degree yX1_degree, Cond.code yX1_degree cX1_degree 4 (some .int), Cond.methodLink RL 52 yX0_strays, Cond.instanceMethod yX0_strays, Cond.selects RX0 yX0_strays yX0_strays, Cond.code yX0_strays cX0_strays 4 (some .int), Cond.methodLink RL 55 yX1_strays, Cond.instanceMethod yX1_strays, Cond.selects RX1 yX1_strays yX1_strays, Cond.code yX1_strays cX1_strays 4 (some .int)]
def wsL_law : List Cond := (wsL_law_r1 ++ (wsL_law_r2 ++ (wsL_law_r3 ++ (wsL_law_r4 ++ (wsL_law_r5 ++ (wsL_law_r6 ++ (wsL_law_r7 ++ (wsL_law_r8 ++ wsL_law_r9)))))))) ++ wsX00 ++ wsX10 ++ ([] : List Cond)
set_option maxRecDepth 20000 in
theorem wsL_law_in : ∀ w ∈ wsL_law, w ∈ lw_tbl := fun w h => (goodIn_p wsL_law [26, 29, 33, 36, 39, 179, 185, 80, 84, 88, 92, 95, 98, 102, 218, 222, 106, 226, 111, 231, 115, 119, 123, 127, 131, 135, 139, 143, 147, 150, 154, 235, 239, 243, 247, 251, 158, 255, 162, 259, 166, 263, 170, 267, 174, 271] (by decide +kernel) (by decide +kernel) w h).1
theorem inlX0 : ∀ w ∈ wsX00, w ∈ wsL_law := fun _ h => List.mem_append_left _ (List.mem_append_left _ (List.mem_append_right _ h))
theorem inX0 : ∀ w ∈ wsX00, w ∈ lw_tbl := fun w h => wsL_law_in w (inlX0 w h)
theorem inlX1 : ∀ w ∈ wsX10, w ∈ wsL_law := fun _ h => List.mem_append_left _ (List.mem_append_right _ h)
theorem inX1 : ∀ w ∈ wsX10, w ∈ lw_tbl := fun w h => wsL_law_in w (inlX1 w h)
theorem inJ7 : ∀ w ∈ wsJ70, w ∈ lw_tbl := by decide +kernel
set_option maxRecDepth 20000 in
theorem ggX0_init_X0_startGraph : GoodIn wsX0_init wsX0_startGraph := goodIn_r _ [19, 20, 21, 22, 5, 7, 8, 9, 23, 24, 25, 26, 27, 28, 29, 30, 31, 32, 33, 34, 35, 36, 37, 38, 39, 40] (by decide +kernel) (by decide +kernel)
set_option maxRecDepth 20000 in
theorem gX0_init_X0_startGraph : GoodIn wsX0_init (wsV RX0 36 RX0 yX0_startGraph wsX0_startGraph) := goodIn_app (goodIn_of _ (by decide +kernel)) ggX0_init_X0_startGraph
theorem dX0_init_0 : decode cX0_init 0 = .ok (.aload_n 0, 1) := by decide +kernel
theorem dX0_init_1 : decode cX0_init 1 = .ok (.invokespecial 3, 3) := by decide +kernel
theorem dX0_init_4 : decode cX0_init 4 = .ok (.aload_n 0, 1) := by decide +kernel
theorem dX0_init_5 : decode cX0_init 5 = .ok (.sipush 800, 3) := by decide +kernel
theorem dX0_init_8 : decode cX0_init 8 = .ok (.newarray .long, 2) := by decide +kernel
theorem dX0_init_10 : decode cX0_init 10 = .ok (.putfield 9, 3) := by decide +kernel
theorem dX0_init_13 : decode cX0_init 13 = .ok (.aload_n 0, 1) := by decide +kernel
theorem dX0_init_14 : decode cX0_init 14 = .ok (.sipush 200, 3) := by decide +kernel
theorem dX0_init_17 : decode cX0_init 17 = .ok (.newarray .int, 2) := by decide +kernel
theorem dX0_init_19 : decode cX0_init 19 = .ok (.putfield 13, 3) := by decide +kernel
theorem dX0_init_22 : decode cX0_init 22 = .ok (.aload_n 0, 1) := by decide +kernel
theorem dX0_init_23 : decode cX0_init 23 = .ok (.sipush 200, 3) := by decide +kernel
theorem dX0_init_26 : decode cX0_init 26 = .ok (.newarray .int, 2) := by decide +kernel
theorem dX0_init_28 : decode cX0_init 28 = .ok (.putfield 17, 3) := by decide +kernel
theorem dX0_init_31 : decode cX0_init 31 = .ok (.aload_n 0, 1) := by decide +kernel
theorem dX0_init_32 : decode cX0_init 32 = .ok (.sipush 200, 3) := by decide +kernel
theorem dX0_init_35 : decode cX0_init 35 = .ok (.newarray .int, 2) := by decide +kernel
theorem dX0_init_37 : decode cX0_init 37 = .ok (.putfield 20, 3) := by decide +kernel
theorem dX0_init_40 : decode cX0_init 40 = .ok (.aload_n 0, 1) := by decide +kernel
theorem dX0_init_41 : decode cX0_init 41 = .ok (.sipush 200, 3) := by decide +kernel
theorem dX0_init_44 : decode cX0_init 44 = .ok (.newarray .int, 2) := by decide +kernel
theorem dX0_init_46 : decode cX0_init 46 = .ok (.putfield 23, 3) := by decide +kernel
theorem dX0_init_49 : decode cX0_init 49 = .ok (.aload_n 0, 1) := by decide +kernel
theorem dX0_init_50 : decode cX0_init 50 = .ok (.sipush 200, 3) := by decide +kernel
theorem dX0_init_53 : decode cX0_init 53 = .ok (.newarray .boolean, 2) := by decide +kernel
theorem dX0_init_55 : decode cX0_init 55 = .ok (.putfield 26, 3) := by decide +kernel
theorem dX0_init_58 : decode cX0_init 58 = .ok (.aload_n 0, 1) := by decide +kernel
theorem dX0_init_59 : decode cX0_init 59 = .ok (.sipush 200, 3) := by decide +kernel
theorem dX0_init_62 : decode cX0_init 62 = .ok (.newarray .int, 2) := by decide +kernel
theorem dX0_init_64 : decode cX0_init 64 = .ok (.putfield 30, 3) := by decide +kernel
theorem dX0_init_67 : decode cX0_init 67 = .ok (.aload_n 0, 1) := by decide +kernel
theorem dX0_init_68 : decode cX0_init 68 = .ok (.sipush 200, 3) := by decide +kernel
theorem dX0_init_71 : decode cX0_init 71 = .ok (.newarray .int, 2) := by decide +kernel
theorem dX0_init_73 : decode cX0_init 73 = .ok (.putfield 33, 3) := by decide +kernel
theorem dX0_init_76 : decode cX0_init 76 = .ok (.aload_n 0, 1) := by decide +kernel
theorem dX0_init_77 : decode cX0_init 77 = .ok (.iconst 1, 1) := by decide +kernel
theorem dX0_init_78 : decode cX0_init 78 = .ok (.iconst 1, 1) := by decide +kernel
theorem dX0_init_79 : decode cX0_init 79 = .ok (.invokevirtual 36, 3) := by decide +kernel
theorem dX0_init_82 : decode cX0_init 82 = .ok (.return_, 1) := by decide +kernel
set_option maxRecDepth 20000 in
theorem ggX0_begin_X0_startGraph : GoodIn wsX0_begin wsX0_startGraph := goodIn_r _ [5, 6, 7, 8, 9, 10, 11, 12, 13, 14, 15, 16, 17, 18, 19, 20, 21, 22, 23, 24, 25, 26, 27, 28, 29, 30] (by decide +kernel) (by decide +kernel)
set_option maxRecDepth 20000 in
theorem gX0_begin_X0_startGraph : GoodIn wsX0_begin (wsV RX0 36 RX0 yX0_startGraph wsX0_startGraph) := goodIn_app (goodIn_of _ (by decide +kernel)) ggX0_begin_X0_startGraph
theorem dX0_begin_0 : decode cX0_begin 0 = .ok (.iload_n 1, 1) := by decide +kernel
theorem dX0_begin_1 : decode cX0_begin 1 = .ok (.iconst 1, 1) := by decide +kernel
theorem dX0_begin_2 : decode cX0_begin 2 = .ok (.if_icmp .lt 21, 3) := by decide +kernel
theorem dX0_begin_5 : decode cX0_begin 5 = .ok (.iload_n 1, 1) := by decide +kernel
theorem dX0_begin_6 : decode cX0_begin 6 = .ok (.sipush 200, 3) := by decide +kernel
theorem dX0_begin_9 : decode cX0_begin 9 = .ok (.if_icmp .gt 14, 3) := by decide +kernel
theorem dX0_begin_12 : decode cX0_begin 12 = .ok (.iload_n 2, 1) := by decide +kernel
theorem dX0_begin_13 : decode cX0_begin 13 = .ok (.iconst 1, 1) := by decide +kernel
theorem dX0_begin_14 : decode cX0_begin 14 = .ok (.if_icmp .lt 9, 3) := by decide +kernel
theorem dX0_begin_17 : decode cX0_begin 17 = .ok (.iload_n 2, 1) := by decide +kernel
theorem dX0_begin_18 : decode cX0_begin 18 = .ok (.bipush 30, 2) := by decide +kernel
theorem dX0_begin_20 : decode cX0_begin 20 = .ok (.if_icmp .le 5, 3) := by decide +kernel
theorem dX0_begin_23 : decode cX0_begin 23 = .ok (.iconst 0, 1) := by decide +kernel
theorem dX0_begin_24 : decode cX0_begin 24 = .ok (.ireturn, 1) := by decide +kernel
theorem dX0_begin_25 : decode cX0_begin 25 = .ok (.aload_n 0, 1) := by decide +kernel
theorem dX0_begin_26 : decode cX0_begin 26 = .ok (.iload_n 1, 1) := by decide +kernel
theorem dX0_begin_27 : decode cX0_begin 27 = .ok (.iload_n 2, 1) := by decide +kernel
theorem dX0_begin_28 : decode cX0_begin 28 = .ok (.invokevirtual 36, 3) := by decide +kernel
theorem dX0_begin_31 : decode cX0_begin 31 = .ok (.iconst 1, 1) := by decide +kernel
theorem dX0_begin_32 : decode cX0_begin 32 = .ok (.ireturn, 1) := by decide +kernel
set_option maxRecDepth 20000 in
theorem ggX0_join_X0_isPoint : GoodIn wsX0_join wsX0_isPoint := goodIn_r _ [6, 7, 24, 25, 26, 27, 28, 29, 30, 31, 32, 33, 34] (by decide +kernel) (by decide +kernel)
set_option maxRecDepth 20000 in
theorem gX0_join_X0_isPoint : GoodIn wsX0_join (wsV RX0 40 RX0 yX0_isPoint wsX0_isPoint) := goodIn_app (goodIn_of _ (by decide +kernel)) ggX0_join_X0_isPoint
set_option maxRecDepth 20000 in
theorem ggX0_join_X0_hasEdge : GoodIn wsX0_join wsX0_hasEdge := goodIn_r _ [11, 12, 13, 14, 5, 15, 16, 17, 18, 24, 25, 26, 27, 28, 29, 30, 31, 32, 33, 34] (by decide +kernel) (by decide +kernel)
set_option maxRecDepth 20000 in
theorem gX0_join_X0_hasEdge : GoodIn wsX0_join (wsV RX0 44 RX0 yX0_hasEdge wsX0_hasEdge) := goodIn_app (goodIn_of _ (by decide +kernel)) ggX0_join_X0_hasEdge
set_option maxRecDepth 20000 in
theorem ggX0_join_X0_addNeighbour : GoodIn wsX0_join wsX0_addNeighbour := goodIn_r _ [22, 12, 23, 13, 14, 5, 15, 16, 17, 18, 24, 25, 26, 27, 28, 29, 30, 31, 32, 33, 34] (by decide +kernel) (by decide +kernel)
set_option maxRecDepth 20000 in
theorem gX0_join_X0_addNeighbour : GoodIn wsX0_join (wsV RX0 48 RX0 yX0_addNeighbour wsX0_addNeighbour) := goodIn_app (goodIn_of _ (by decide +kernel)) ggX0_join_X0_addNeighbour
theorem dX0_join_0 : decode cX0_join 0 = .ok (.aload_n 0, 1) := by decide +kernel
theorem dX0_join_1 : decode cX0_join 1 = .ok (.iload_n 1, 1) := by decide +kernel
theorem dX0_join_2 : decode cX0_join 2 = .ok (.invokevirtual 40, 3) := by decide +kernel
theorem dX0_join_5 : decode cX0_join 5 = .ok (.ifCond .eq 25, 3) := by decide +kernel
theorem dX0_join_8 : decode cX0_join 8 = .ok (.aload_n 0, 1) := by decide +kernel
theorem dX0_join_9 : decode cX0_join 9 = .ok (.iload_n 2, 1) := by decide +kernel
theorem dX0_join_10 : decode cX0_join 10 = .ok (.invokevirtual 40, 3) := by decide +kernel
theorem dX0_join_13 : decode cX0_join 13 = .ok (.ifCond .eq 17, 3) := by decide +kernel
theorem dX0_join_16 : decode cX0_join 16 = .ok (.iload_n 1, 1) := by decide +kernel
theorem dX0_join_17 : decode cX0_join 17 = .ok (.iload_n 2, 1) := by decide +kernel
theorem dX0_join_18 : decode cX0_join 18 = .ok (.if_icmp .eq 12, 3) := by decide +kernel
theorem dX0_join_21 : decode cX0_join 21 = .ok (.aload_n 0, 1) := by decide +kernel
theorem dX0_join_22 : decode cX0_join 22 = .ok (.iload_n 1, 1) := by decide +kernel
theorem dX0_join_23 : decode cX0_join 23 = .ok (.iload_n 2, 1) := by decide +kernel
theorem dX0_join_24 : decode cX0_join 24 = .ok (.invokevirtual 44, 3) := by decide +kernel
theorem dX0_join_27 : decode cX0_join 27 = .ok (.ifCond .eq 5, 3) := by decide +kernel
theorem dX0_join_30 : decode cX0_join 30 = .ok (.iconst 0, 1) := by decide +kernel
theorem dX0_join_31 : decode cX0_join 31 = .ok (.ireturn, 1) := by decide +kernel
theorem dX0_join_32 : decode cX0_join 32 = .ok (.aload_n 0, 1) := by decide +kernel
theorem dX0_join_33 : decode cX0_join 33 = .ok (.iload_n 1, 1) := by decide +kernel
theorem dX0_join_34 : decode cX0_join 34 = .ok (.iload_n 2, 1) := by decide +kernel
theorem dX0_join_35 : decode cX0_join 35 = .ok (.invokevirtual 48, 3) := by decide +kernel
theorem dX0_join_38 : decode cX0_join 38 = .ok (.aload_n 0, 1) := by decide +kernel
theorem dX0_join_39 : decode cX0_join 39 = .ok (.iload_n 2, 1) := by decide +kernel
theorem dX0_join_40 : decode cX0_join 40 = .ok (.iload_n 1, 1) := by decide +kernel
theorem dX0_join_41 : decode cX0_join 41 = .ok (.invokevirtual 48, 3) := by decide +kernel
theorem dX0_join_44 : decode cX0_join 44 = .ok (.aload_n 0, 1) := by decide +kernel
theorem dX0_join_45 : decode cX0_join 45 = .ok (.iconst 0, 1) := by decide +kernel
theorem dX0_join_46 : decode cX0_join 46 = .ok (.putfield 51, 3) := by decide +kernel
theorem dX0_join_49 : decode cX0_join 49 = .ok (.iconst 1, 1) := by decide +kernel
theorem dX0_join_50 : decode cX0_join 50 = .ok (.ireturn, 1) := by decide +kernel
set_option maxRecDepth 20000 in
theorem ggX0_cost_X0_isPoint : GoodIn wsX0_cost wsX0_isPoint := goodIn_r _ [8, 9, 10, 11, 12, 13, 14, 15, 16, 17, 18, 19, 20] (by decide +kernel) (by decide +kernel)
set_option maxRecDepth 20000 in
theorem gX0_cost_X0_isPoint : GoodIn wsX0_cost (wsV RX0 40 RX0 yX0_isPoint wsX0_isPoint) := goodIn_app (goodIn_of _ (by decide +kernel)) ggX0_cost_X0_isPoint
theorem dX0_cost_0 : decode cX0_cost 0 = .ok (.aload_n 0, 1) := by decide +kernel
theorem dX0_cost_1 : decode cX0_cost 1 = .ok (.iload_n 1, 1) := by decide +kernel
theorem dX0_cost_2 : decode cX0_cost 2 = .ok (.invokevirtual 40, 3) := by decide +kernel
theorem dX0_cost_5 : decode cX0_cost 5 = .ok (.ifCond .eq 13, 3) := by decide +kernel
theorem dX0_cost_8 : decode cX0_cost 8 = .ok (.iload_n 2, 1) := by decide +kernel
theorem dX0_cost_9 : decode cX0_cost 9 = .ok (.ifCond .lt 9, 3) := by decide +kernel
theorem dX0_cost_12 : decode cX0_cost 12 = .ok (.iload_n 2, 1) := by decide +kernel
theorem dX0_cost_13 : decode cX0_cost 13 = .ok (.ldc 55, 2) := by decide +kernel
theorem dX0_cost_15 : decode cX0_cost 15 = .ok (.if_icmp .le 5, 3) := by decide +kernel
theorem dX0_cost_18 : decode cX0_cost 18 = .ok (.iconst 0, 1) := by decide +kernel
theorem dX0_cost_19 : decode cX0_cost 19 = .ok (.ireturn, 1) := by decide +kernel
theorem dX0_cost_20 : decode cX0_cost 20 = .ok (.aload_n 0, 1) := by decide +kernel
theorem dX0_cost_21 : decode cX0_cost 21 = .ok (.getfield 17, 3) := by decide +kernel
theorem dX0_cost_24 : decode cX0_cost 24 = .ok (.iload_n 1, 1) := by decide +kernel
theorem dX0_cost_25 : decode cX0_cost 25 = .ok (.iload_n 2, 1) := by decide +kernel
theorem dX0_cost_26 : decode cX0_cost 26 = .ok (.iastore, 1) := by decide +kernel
theorem dX0_cost_27 : decode cX0_cost 27 = .ok (.aload_n 0, 1) := by decide +kernel
theorem dX0_cost_28 : decode cX0_cost 28 = .ok (.iconst 0, 1) := by decide +kernel
theorem dX0_cost_29 : decode cX0_cost 29 = .ok (.putfield 51, 3) := by decide +kernel
theorem dX0_cost_32 : decode cX0_cost 32 = .ok (.iconst 1, 1) := by decide +kernel
theorem dX0_cost_33 : decode cX0_cost 33 = .ok (.ireturn, 1) := by decide +kernel
set_option maxRecDepth 20000 in
theorem ggX0_wish_X0_isPoint : GoodIn wsX0_wish wsX0_isPoint := goodIn_r _ [7, 8, 9, 10, 11, 12, 13, 14, 15, 16, 17, 18, 19] (by decide +kernel) (by decide +kernel)
set_option maxRecDepth 20000 in
theorem gX0_wish_X0_isPoint : GoodIn wsX0_wish (wsV RX0 40 RX0 yX0_isPoint wsX0_isPoint) := goodIn_app (goodIn_of _ (by decide +kernel)) ggX0_wish_X0_isPoint
theorem dX0_wish_0 : decode cX0_wish 0 = .ok (.aload_n 0, 1) := by decide +kernel
theorem dX0_wish_1 : decode cX0_wish 1 = .ok (.iload_n 1, 1) := by decide +kernel
theorem dX0_wish_2 : decode cX0_wish 2 = .ok (.invokevirtual 40, 3) := by decide +kernel
theorem dX0_wish_5 : decode cX0_wish 5 = .ok (.ifCond .eq 11, 3) := by decide +kernel
theorem dX0_wish_8 : decode cX0_wish 8 = .ok (.aload_n 0, 1) := by decide +kernel
theorem dX0_wish_9 : decode cX0_wish 9 = .ok (.iload_n 2, 1) := by decide +kernel
theorem dX0_wish_10 : decode cX0_wish 10 = .ok (.invokevirtual 40, 3) := by decide +kernel
theorem dX0_wish_13 : decode cX0_wish 13 = .ok (.ifCond .ne 5, 3) := by decide +kernel
theorem dX0_wish_16 : decode cX0_wish 16 = .ok (.iconst 0, 1) := by decide +kernel
theorem dX0_wish_17 : decode cX0_wish 17 = .ok (.ireturn, 1) := by decide +kernel
theorem dX0_wish_18 : decode cX0_wish 18 = .ok (.aload_n 0, 1) := by decide +kernel
theorem dX0_wish_19 : decode cX0_wish 19 = .ok (.getfield 20, 3) := by decide +kernel
theorem dX0_wish_22 : decode cX0_wish 22 = .ok (.iload_n 1, 1) := by decide +kernel
theorem dX0_wish_23 : decode cX0_wish 23 = .ok (.iload_n 1, 1) := by decide +kernel
theorem dX0_wish_24 : decode cX0_wish 24 = .ok (.iload_n 2, 1) := by decide +kernel
theorem dX0_wish_25 : decode cX0_wish 25 = .ok (.if_icmp .ne 7, 3) := by decide +kernel
theorem dX0_wish_28 : decode cX0_wish 28 = .ok (.iconst (-1), 1) := by decide +kernel
theorem dX0_wish_29 : decode cX0_wish 29 = .ok (.goto 4, 3) := by decide +kernel
theorem dX0_wish_32 : decode cX0_wish 32 = .ok (.iload_n 2, 1) := by decide +kernel
theorem dX0_wish_33 : decode cX0_wish 33 = .ok (.iastore, 1) := by decide +kernel
theorem dX0_wish_34 : decode cX0_wish 34 = .ok (.aload_n 0, 1) := by decide +kernel
theorem dX0_wish_35 : decode cX0_wish 35 = .ok (.iconst 0, 1) := by decide +kernel
theorem dX0_wish_36 : decode cX0_wish 36 = .ok (.putfield 51, 3) := by decide +kernel
theorem dX0_wish_39 : decode cX0_wish 39 = .ok (.iconst 1, 1) := by decide +kernel
theorem dX0_wish_40 : decode cX0_wish 40 = .ok (.ireturn, 1) := by decide +kernel
set_option maxRecDepth 20000 in
theorem ggX0_give_X0_takeAllOut : GoodIn wsX0_give wsX0_takeAllOut := goodIn_r _ [6, 7, 8, 9, 10, 11, 12, 13, 14, 5, 15, 16, 17, 18, 19, 20, 21, 22, 23, 24, 25, 26, 27, 28, 29, 30, 31, 32, 33, 34, 35, 36, 37, 38, 39, 40, 70, 71, 72, 73, 74, 75, 76, 77, 78, 79, 80] (by decide +kernel) (by decide +kernel)
set_option maxRecDepth 20000 in
theorem gX0_give_X0_takeAllOut : GoodIn wsX0_give (wsV RX0 56 RX0 yX0_takeAllOut wsX0_takeAllOut) := goodIn_app (goodIn_of _ (by decide +kernel)) ggX0_give_X0_takeAllOut
set_option maxRecDepth 20000 in
theorem ggX0_give_X0_putAllBack : GoodIn wsX0_give wsX0_putAllBack := goodIn_r _ [44, 45, 7, 11, 46, 47, 48, 49, 26, 27, 28, 5, 29, 50, 51, 52, 53, 16, 54, 55, 56, 57, 30, 31, 32, 33, 34, 35, 36, 37, 38, 39, 40, 58, 59, 60, 61, 62, 63, 64, 65, 70, 71, 72, 73, 74, 75, 76, 77, 78, 79, 80] (by decide +kernel) (by decide +kernel)
set_option maxRecDepth 20000 in
theorem gX0_give_X0_putAllBack : GoodIn wsX0_give (wsV RX0 59 RX0 yX0_putAllBack wsX0_putAllBack) := goodIn_app (goodIn_of _ (by decide +kernel)) ggX0_give_X0_putAllBack
set_option maxRecDepth 20000 in
theorem ggX0_give_X0_countColourless : GoodIn wsX0_give wsX0_countColourless := goodIn_r _ [69, 7, 45, 70, 71, 72, 73, 74, 75, 76, 77, 78, 79, 80] (by decide +kernel) (by decide +kernel)
set_option maxRecDepth 20000 in
theorem gX0_give_X0_countColourless : GoodIn wsX0_give (wsV RX0 62 RX0 yX0_countColourless wsX0_countColourless) := goodIn_app (goodIn_of _ (by decide +kernel)) ggX0_give_X0_countColourless
theorem dX0_give_0 : decode cX0_give 0 = .ok (.aload_n 0, 1) := by decide +kernel
theorem dX0_give_1 : decode cX0_give 1 = .ok (.invokevirtual 56, 3) := by decide +kernel
theorem dX0_give_4 : decode cX0_give 4 = .ok (.aload_n 0, 1) := by decide +kernel
theorem dX0_give_5 : decode cX0_give 5 = .ok (.invokevirtual 59, 3) := by decide +kernel
theorem dX0_give_8 : decode cX0_give 8 = .ok (.aload_n 0, 1) := by decide +kernel
theorem dX0_give_9 : decode cX0_give 9 = .ok (.iconst 1, 1) := by decide +kernel
theorem dX0_give_10 : decode cX0_give 10 = .ok (.putfield 51, 3) := by decide +kernel
theorem dX0_give_13 : decode cX0_give 13 = .ok (.aload_n 0, 1) := by decide +kernel
theorem dX0_give_14 : decode cX0_give 14 = .ok (.invokevirtual 62, 3) := by decide +kernel
theorem dX0_give_17 : decode cX0_give 17 = .ok (.ireturn, 1) := by decide +kernel
set_option maxRecDepth 20000 in
theorem ggX0_colour_X0_isPoint : GoodIn wsX0_colour wsX0_isPoint := goodIn_r _ [7, 8, 9, 10, 11, 12, 13, 14, 15, 16, 17, 18, 19] (by decide +kernel) (by decide +kernel)
set_option maxRecDepth 20000 in
theorem gX0_colour_X0_isPoint : GoodIn wsX0_colour (wsV RX0 40 RX0 yX0_isPoint wsX0_isPoint) := goodIn_app (goodIn_of _ (by decide +kernel)) ggX0_colour_X0_isPoint
theorem dX0_colour_0 : decode cX0_colour 0 = .ok (.aload_n 0, 1) := by decide +kernel
theorem dX0_colour_1 : decode cX0_colour 1 = .ok (.getfield 51, 3) := by decide +kernel
theorem dX0_colour_4 : decode cX0_colour 4 = .ok (.ifCond .eq 20, 3) := by decide +kernel
theorem dX0_colour_7 : decode cX0_colour 7 = .ok (.aload_n 0, 1) := by decide +kernel
theorem dX0_colour_8 : decode cX0_colour 8 = .ok (.iload_n 1, 1) := by decide +kernel
theorem dX0_colour_9 : decode cX0_colour 9 = .ok (.invokevirtual 40, 3) := by decide +kernel
theorem dX0_colour_12 : decode cX0_colour 12 = .ok (.ifCond .eq 12, 3) := by decide +kernel
theorem dX0_colour_15 : decode cX0_colour 15 = .ok (.aload_n 0, 1) := by decide +kernel
theorem dX0_colour_16 : decode cX0_colour 16 = .ok (.getfield 33, 3) := by decide +kernel
theorem dX0_colour_19 : decode cX0_colour 19 = .ok (.iload_n 1, 1) := by decide +kernel
theorem dX0_colour_20 : decode cX0_colour 20 = .ok (.iaload, 1) := by decide +kernel
theorem dX0_colour_21 : decode cX0_colour 21 = .ok (.goto 4, 3) := by decide +kernel
theorem dX0_colour_24 : decode cX0_colour 24 = .ok (.iconst (-1), 1) := by decide +kernel
theorem dX0_colour_25 : decode cX0_colour 25 = .ok (.ireturn, 1) := by decide +kernel
set_option maxRecDepth 20000 in
theorem ggX0_taken_X0_isPoint : GoodIn wsX0_taken wsX0_isPoint := goodIn_r _ [7, 8, 9, 10, 11, 12, 13, 14, 15, 16, 17, 18, 19] (by decide +kernel) (by decide +kernel)
set_option maxRecDepth 20000 in
theorem gX0_taken_X0_isPoint : GoodIn wsX0_taken (wsV RX0 40 RX0 yX0_isPoint wsX0_isPoint) := goodIn_app (goodIn_of _ (by decide +kernel)) ggX0_taken_X0_isPoint
theorem dX0_taken_0 : decode cX0_taken 0 = .ok (.aload_n 0, 1) := by decide +kernel
theorem dX0_taken_1 : decode cX0_taken 1 = .ok (.getfield 51, 3) := by decide +kernel
theorem dX0_taken_4 : decode cX0_taken 4 = .ok (.ifCond .eq 20, 3) := by decide +kernel
theorem dX0_taken_7 : decode cX0_taken 7 = .ok (.aload_n 0, 1) := by decide +kernel
theorem dX0_taken_8 : decode cX0_taken 8 = .ok (.iload_n 1, 1) := by decide +kernel
theorem dX0_taken_9 : decode cX0_taken 9 = .ok (.invokevirtual 40, 3) := by decide +kernel
theorem dX0_taken_12 : decode cX0_taken 12 = .ok (.ifCond .eq 12, 3) := by decide +kernel
theorem dX0_taken_15 : decode cX0_taken 15 = .ok (.aload_n 0, 1) := by decide +kernel
theorem dX0_taken_16 : decode cX0_taken 16 = .ok (.getfield 23, 3) := by decide +kernel
theorem dX0_taken_19 : decode cX0_taken 19 = .ok (.iload_n 1, 1) := by decide +kernel
theorem dX0_taken_20 : decode cX0_taken 20 = .ok (.iaload, 1) := by decide +kernel
theorem dX0_taken_21 : decode cX0_taken 21 = .ok (.goto 4, 3) := by decide +kernel
theorem dX0_taken_24 : decode cX0_taken 24 = .ok (.iconst (-1), 1) := by decide +kernel
theorem dX0_taken_25 : decode cX0_taken 25 = .ok (.ireturn, 1) := by decide +kernel
set_option maxRecDepth 20000 in
theorem ggX0_joined_X0_isPoint : GoodIn wsX0_joined wsX0_isPoint := goodIn_r _ [5, 6, 18, 19, 20, 21, 22, 23, 24, 25, 26, 27, 28] (by decide +kernel) (by decide +kernel)
set_option maxRecDepth 20000 in
theorem gX0_joined_X0_isPoint : GoodIn wsX0_joined (wsV RX0 40 RX0 yX0_isPoint wsX0_isPoint) := goodIn_app (goodIn_of _ (by decide +kernel)) ggX0_joined_X0_isPoint
set_option maxRecDepth 20000 in
theorem ggX0_joined_X0_hasEdge : GoodIn wsX0_joined wsX0_hasEdge := goodIn_r _ [10, 11, 12, 13, 4, 14, 15, 16, 17, 18, 19, 20, 21, 22, 23, 24, 25, 26, 27, 28] (by decide +kernel) (by decide +kernel)
set_option maxRecDepth 20000 in
theorem gX0_joined_X0_hasEdge : GoodIn wsX0_joined (wsV RX0 44 RX0 yX0_hasEdge wsX0_hasEdge) := goodIn_app (goodIn_of _ (by decide +kernel)) ggX0_joined_X0_hasEdge
theorem dX0_joined_0 : decode cX0_joined 0 = .ok (.aload_n 0, 1) := by decide +kernel
theorem dX0_joined_1 : decode cX0_joined 1 = .ok (.iload_n 1, 1) := by decide +kernel
theorem dX0_joined_2 : decode cX0_joined 2 = .ok (.invokevirtual 40, 3) := by decide +kernel
theorem dX0_joined_5 : decode cX0_joined 5 = .ok (.ifCond .eq 24, 3) := by decide +kernel
theorem dX0_joined_8 : decode cX0_joined 8 = .ok (.aload_n 0, 1) := by decide +kernel
theorem dX0_joined_9 : decode cX0_joined 9 = .ok (.iload_n 2, 1) := by decide +kernel
theorem dX0_joined_10 : decode cX0_joined 10 = .ok (.invokevirtual 40, 3) := by decide +kernel
theorem dX0_joined_13 : decode cX0_joined 13 = .ok (.ifCond .eq 16, 3) := by decide +kernel
theorem dX0_joined_16 : decode cX0_joined 16 = .ok (.aload_n 0, 1) := by decide +kernel
theorem dX0_joined_17 : decode cX0_joined 17 = .ok (.iload_n 1, 1) := by decide +kernel
theorem dX0_joined_18 : decode cX0_joined 18 = .ok (.iload_n 2, 1) := by decide +kernel
theorem dX0_joined_19 : decode cX0_joined 19 = .ok (.invokevirtual 44, 3) := by decide +kernel
theorem dX0_joined_22 : decode cX0_joined 22 = .ok (.ifCond .eq 7, 3) := by decide +kernel
theorem dX0_joined_25 : decode cX0_joined 25 = .ok (.iconst 1, 1) := by decide +kernel
theorem dX0_joined_26 : decode cX0_joined 26 = .ok (.goto 4, 3) := by decide +kernel
theorem dX0_joined_29 : decode cX0_joined 29 = .ok (.iconst 0, 1) := by decide +kernel
theorem dX0_joined_30 : decode cX0_joined 30 = .ok (.ireturn, 1) := by decide +kernel
set_option maxRecDepth 20000 in
theorem ggX0_degree_X0_isPoint : GoodIn wsX0_degree wsX0_isPoint := goodIn_r _ [6, 7, 8, 9, 10, 11, 12, 13, 14, 15, 16, 17, 18] (by decide +kernel) (by decide +kernel)
set_option maxRecDepth 20000 in
theorem gX0_degree_X0_isPoint : GoodIn wsX0_degree (wsV RX0 40 RX0 yX0_isPoint wsX0_isPoint) := goodIn_app (goodIn_of _ (by decide +kernel)) ggX0_degree_X0_isPoint
theorem dX0_degree_0 : decode cX0_degree 0 = .ok (.aload_n 0, 1) := by decide +kernel
theorem dX0_degree_1 : decode cX0_degree 1 = .ok (.iload_n 1, 1) := by decide +kernel
theorem dX0_degree_2 : decode cX0_degree 2 = .ok (.invokevirtual 40, 3) := by decide +kernel
theorem dX0_degree_5 : decode cX0_degree 5 = .ok (.ifCond .eq 12, 3) := by decide +kernel
theorem dX0_degree_8 : decode cX0_degree 8 = .ok (.aload_n 0, 1) := by decide +kernel
theorem dX0_degree_9 : decode cX0_degree 9 = .ok (.getfield 13, 3) := by decide +kernel
theorem dX0_degree_12 : decode cX0_degree 12 = .ok (.iload_n 1, 1) := by decide +kernel
theorem dX0_degree_13 : decode cX0_degree 13 = .ok (.iaload, 1) := by decide +kernel
theorem dX0_degree_14 : decode cX0_degree 14 = .ok (.goto 4, 3) := by decide +kernel
theorem dX0_degree_17 : decode cX0_degree 17 = .ok (.iconst (-1), 1) := by decide +kernel
theorem dX0_degree_18 : decode cX0_degree 18 = .ok (.ireturn, 1) := by decide +kernel
set_option maxRecDepth 20000 in
theorem ggX0_strays_X0_hasEdge : GoodIn wsX0_strays wsX0_hasEdge := goodIn_r _ [8, 9, 10, 11, 7, 12, 13, 14, 15, 16, 17, 18, 19, 20, 21, 22, 23, 24, 25, 26] (by decide +kernel) (by decide +kernel)
set_option maxRecDepth 20000 in
theorem gX0_strays_X0_hasEdge : GoodIn wsX0_strays (wsV RX0 44 RX0 yX0_hasEdge wsX0_hasEdge) := goodIn_app (goodIn_of _ (by decide +kernel)) ggX0_strays_X0_hasEdge
theorem dX0_strays_0 : decode cX0_strays 0 = .ok (.aload_n 0, 1) := by decide +kernel
theorem dX0_strays_1 : decode cX0_strays 1 = .ok (.getfield 51, 3) := by decide +kernel
theorem dX0_strays_4 : decode cX0_strays 4 = .ok (.ifCond .ne 5, 3) := by decide +kernel
theorem dX0_strays_7 : decode cX0_strays 7 = .ok (.iconst 0, 1) := by decide +kernel
theorem dX0_strays_8 : decode cX0_strays 8 = .ok (.ireturn, 1) := by decide +kernel
theorem dX0_strays_9 : decode cX0_strays 9 = .ok (.iconst 0, 1) := by decide +kernel
theorem dX0_strays_10 : decode cX0_strays 10 = .ok (.istore_n 1, 1) := by decide +kernel
theorem dX0_strays_11 : decode cX0_strays 11 = .ok (.iconst 0, 1) := by decide +kernel
theorem dX0_strays_12 : decode cX0_strays 12 = .ok (.istore_n 2, 1) := by decide +kernel
theorem dX0_strays_13 : decode cX0_strays 13 = .ok (.iload_n 2, 1) := by decide +kernel
theorem dX0_strays_14 : decode cX0_strays 14 = .ok (.aload_n 0, 1) := by decide +kernel
theorem dX0_strays_15 : decode cX0_strays 15 = .ok (.getfield 66, 3) := by decide +kernel
theorem dX0_strays_18 : decode cX0_strays 18 = .ok (.if_icmp .ge 64, 3) := by decide +kernel
theorem dX0_strays_21 : decode cX0_strays 21 = .ok (.iload_n 2, 1) := by decide +kernel
theorem dX0_strays_22 : decode cX0_strays 22 = .ok (.iconst 1, 1) := by decide +kernel
theorem dX0_strays_23 : decode cX0_strays 23 = .ok (.iadd, 1) := by decide +kernel
theorem dX0_strays_24 : decode cX0_strays 24 = .ok (.istore_n 3, 1) := by decide +kernel
theorem dX0_strays_25 : decode cX0_strays 25 = .ok (.iload_n 3, 1) := by decide +kernel
theorem dX0_strays_26 : decode cX0_strays 26 = .ok (.aload_n 0, 1) := by decide +kernel
theorem dX0_strays_27 : decode cX0_strays 27 = .ok (.getfield 66, 3) := by decide +kernel
theorem dX0_strays_30 : decode cX0_strays 30 = .ok (.if_icmp .ge 46, 3) := by decide +kernel
theorem dX0_strays_33 : decode cX0_strays 33 = .ok (.aload_n 0, 1) := by decide +kernel
theorem dX0_strays_34 : decode cX0_strays 34 = .ok (.getfield 33, 3) := by decide +kernel
theorem dX0_strays_37 : decode cX0_strays 37 = .ok (.iload_n 2, 1) := by decide +kernel
theorem dX0_strays_38 : decode cX0_strays 38 = .ok (.iaload, 1) := by decide +kernel
theorem dX0_strays_39 : decode cX0_strays 39 = .ok (.iconst (-1), 1) := by decide +kernel
theorem dX0_strays_40 : decode cX0_strays 40 = .ok (.if_icmp .eq 30, 3) := by decide +kernel
theorem dX0_strays_43 : decode cX0_strays 43 = .ok (.aload_n 0, 1) := by decide +kernel
theorem dX0_strays_44 : decode cX0_strays 44 = .ok (.getfield 33, 3) := by decide +kernel
theorem dX0_strays_47 : decode cX0_strays 47 = .ok (.iload_n 2, 1) := by decide +kernel
theorem dX0_strays_48 : decode cX0_strays 48 = .ok (.iaload, 1) := by decide +kernel
theorem dX0_strays_49 : decode cX0_strays 49 = .ok (.aload_n 0, 1) := by decide +kernel
theorem dX0_strays_50 : decode cX0_strays 50 = .ok (.getfield 33, 3) := by decide +kernel
theorem dX0_strays_53 : decode cX0_strays 53 = .ok (.iload_n 3, 1) := by decide +kernel
theorem dX0_strays_54 : decode cX0_strays 54 = .ok (.iaload, 1) := by decide +kernel
theorem dX0_strays_55 : decode cX0_strays 55 = .ok (.if_icmp .ne 15, 3) := by decide +kernel
theorem dX0_strays_58 : decode cX0_strays 58 = .ok (.aload_n 0, 1) := by decide +kernel
theorem dX0_strays_59 : decode cX0_strays 59 = .ok (.iload_n 2, 1) := by decide +kernel
theorem dX0_strays_60 : decode cX0_strays 60 = .ok (.iload_n 3, 1) := by decide +kernel
theorem dX0_strays_61 : decode cX0_strays 61 = .ok (.invokevirtual 44, 3) := by decide +kernel
theorem dX0_strays_64 : decode cX0_strays 64 = .ok (.ifCond .eq 6, 3) := by decide +kernel
theorem dX0_strays_67 : decode cX0_strays 67 = .ok (.iinc 1 1, 3) := by decide +kernel
theorem dX0_strays_70 : decode cX0_strays 70 = .ok (.iinc 3 1, 3) := by decide +kernel
theorem dX0_strays_73 : decode cX0_strays 73 = .ok (.goto (-48), 3) := by decide +kernel
theorem dX0_strays_76 : decode cX0_strays 76 = .ok (.iinc 2 1, 3) := by decide +kernel
theorem dX0_strays_79 : decode cX0_strays 79 = .ok (.goto (-66), 3) := by decide +kernel
theorem dX0_strays_82 : decode cX0_strays 82 = .ok (.iload_n 1, 1) := by decide +kernel
theorem dX0_strays_83 : decode cX0_strays 83 = .ok (.ireturn, 1) := by decide +kernel
set_option maxRecDepth 20000 in
theorem ggX0_startGraph_J7_fill_d0a16 : GoodIn wsX0_startGraph wsJ7_fill_d0a16 := goodIn_r _ [11] (by decide +kernel) (by decide +kernel)
set_option maxRecDepth 20000 in
theorem gX0_startGraph_J7_fill_d0a16 : GoodIn wsX0_startGraph (va_wsS RX0 73 yJ7_fill_d0a16 wsJ7_fill_d0a16) := goodIn_app (goodIn_of _ (by decide +kernel)) ggX0_startGraph_J7_fill_d0a16
set_option maxRecDepth 20000 in
theorem ggX0_startGraph_J7_fill_53178 : GoodIn wsX0_startGraph wsJ7_fill_53178 := goodIn_r _ [14] (by decide +kernel) (by decide +kernel)
set_option maxRecDepth 20000 in
theorem gX0_startGraph_J7_fill_53178 : GoodIn wsX0_startGraph (va_wsS RX0 79 yJ7_fill_53178 wsJ7_fill_53178) := goodIn_app (goodIn_of _ (by decide +kernel)) ggX0_startGraph_J7_fill_53178
theorem dX0_startGraph_0 : decode cX0_startGraph 0 = .ok (.aload_n 0, 1) := by decide +kernel
theorem dX0_startGraph_1 : decode cX0_startGraph 1 = .ok (.iload_n 1, 1) := by decide +kernel
theorem dX0_startGraph_2 : decode cX0_startGraph 2 = .ok (.putfield 66, 3) := by decide +kernel
theorem dX0_startGraph_5 : decode cX0_startGraph 5 = .ok (.aload_n 0, 1) := by decide +kernel
theorem dX0_startGraph_6 : decode cX0_startGraph 6 = .ok (.iload_n 2, 1) := by decide +kernel
theorem dX0_startGraph_7 : decode cX0_startGraph 7 = .ok (.putfield 70, 3) := by decide +kernel
theorem dX0_startGraph_10 : decode cX0_startGraph 10 = .ok (.aload_n 0, 1) := by decide +kernel
theorem dX0_startGraph_11 : decode cX0_startGraph 11 = .ok (.iconst 0, 1) := by decide +kernel
theorem dX0_startGraph_12 : decode cX0_startGraph 12 = .ok (.putfield 51, 3) := by decide +kernel
theorem dX0_startGraph_15 : decode cX0_startGraph 15 = .ok (.aload_n 0, 1) := by decide +kernel
theorem dX0_startGraph_16 : decode cX0_startGraph 16 = .ok (.getfield 9, 3) := by decide +kernel
theorem dX0_startGraph_19 : decode cX0_startGraph 19 = .ok (.lconst 0, 1) := by decide +kernel
theorem dX0_startGraph_20 : decode cX0_startGraph 20 = .ok (.invokestatic 73, 3) := by decide +kernel
theorem dX0_startGraph_23 : decode cX0_startGraph 23 = .ok (.aload_n 0, 1) := by decide +kernel
theorem dX0_startGraph_24 : decode cX0_startGraph 24 = .ok (.getfield 13, 3) := by decide +kernel
theorem dX0_startGraph_27 : decode cX0_startGraph 27 = .ok (.iconst 0, 1) := by decide +kernel
theorem dX0_startGraph_28 : decode cX0_startGraph 28 = .ok (.invokestatic 79, 3) := by decide +kernel
theorem dX0_startGraph_31 : decode cX0_startGraph 31 = .ok (.aload_n 0, 1) := by decide +kernel
theorem dX0_startGraph_32 : decode cX0_startGraph 32 = .ok (.getfield 17, 3) := by decide +kernel
theorem dX0_startGraph_35 : decode cX0_startGraph 35 = .ok (.iconst 0, 1) := by decide +kernel
theorem dX0_startGraph_36 : decode cX0_startGraph 36 = .ok (.invokestatic 79, 3) := by decide +kernel
theorem dX0_startGraph_39 : decode cX0_startGraph 39 = .ok (.aload_n 0, 1) := by decide +kernel
theorem dX0_startGraph_40 : decode cX0_startGraph 40 = .ok (.getfield 20, 3) := by decide +kernel
theorem dX0_startGraph_43 : decode cX0_startGraph 43 = .ok (.iconst (-1), 1) := by decide +kernel
theorem dX0_startGraph_44 : decode cX0_startGraph 44 = .ok (.invokestatic 79, 3) := by decide +kernel
theorem dX0_startGraph_47 : decode cX0_startGraph 47 = .ok (.return_, 1) := by decide +kernel
theorem dX0_isPoint_0 : decode cX0_isPoint 0 = .ok (.iload_n 1, 1) := by decide +kernel
theorem dX0_isPoint_1 : decode cX0_isPoint 1 = .ok (.ifCond .lt 15, 3) := by decide +kernel
theorem dX0_isPoint_4 : decode cX0_isPoint 4 = .ok (.iload_n 1, 1) := by decide +kernel
theorem dX0_isPoint_5 : decode cX0_isPoint 5 = .ok (.aload_n 0, 1) := by decide +kernel
theorem dX0_isPoint_6 : decode cX0_isPoint 6 = .ok (.getfield 66, 3) := by decide +kernel
theorem dX0_isPoint_9 : decode cX0_isPoint 9 = .ok (.if_icmp .ge 7, 3) := by decide +kernel
theorem dX0_isPoint_12 : decode cX0_isPoint 12 = .ok (.iconst 1, 1) := by decide +kernel
theorem dX0_isPoint_13 : decode cX0_isPoint 13 = .ok (.goto 4, 3) := by decide +kernel
theorem dX0_isPoint_16 : decode cX0_isPoint 16 = .ok (.iconst 0, 1) := by decide +kernel
theorem dX0_isPoint_17 : decode cX0_isPoint 17 = .ok (.ireturn, 1) := by decide +kernel
set_option maxRecDepth 20000 in
theorem ggX0_hasEdge_X0_wordOf : GoodIn wsX0_hasEdge wsX0_wordOf := goodIn_r _ [5] (by decide +kernel) (by decide +kernel)
set_option maxRecDepth 20000 in
theorem gX0_hasEdge_X0_wordOf : GoodIn wsX0_hasEdge (va_wsS RX0 82 yX0_wordOf wsX0_wordOf) := goodIn_app (goodIn_of _ (by decide +kernel)) ggX0_hasEdge_X0_wordOf
set_option maxRecDepth 20000 in
theorem ggX0_hasEdge_X0_bitOf : GoodIn wsX0_hasEdge wsX0_bitOf := goodIn_r _ [8] (by decide +kernel) (by decide +kernel)
set_option maxRecDepth 20000 in
theorem gX0_hasEdge_X0_bitOf : GoodIn wsX0_hasEdge (va_wsS RX0 86 yX0_bitOf wsX0_bitOf) := goodIn_app (goodIn_of _ (by decide +kernel)) ggX0_hasEdge_X0_bitOf
theorem dX0_hasEdge_0 : decode cX0_hasEdge 0 = .ok (.aload_n 0, 1) := by decide +kernel
theorem dX0_hasEdge_1 : decode cX0_hasEdge 1 = .ok (.getfield 9, 3) := by decide +kernel
theorem dX0_hasEdge_4 : decode cX0_hasEdge 4 = .ok (.iload_n 1, 1) := by decide +kernel
theorem dX0_hasEdge_5 : decode cX0_hasEdge 5 = .ok (.iload_n 2, 1) := by decide +kernel
theorem dX0_hasEdge_6 : decode cX0_hasEdge 6 = .ok (.invokestatic 82, 3) := by decide +kernel
theorem dX0_hasEdge_9 : decode cX0_hasEdge 9 = .ok (.laload, 1) := by decide +kernel
theorem dX0_hasEdge_10 : decode cX0_hasEdge 10 = .ok (.iload_n 2, 1) := by decide +kernel
theorem dX0_hasEdge_11 : decode cX0_hasEdge 11 = .ok (.invokestatic 86, 3) := by decide +kernel
theorem dX0_hasEdge_14 : decode cX0_hasEdge 14 = .ok (.land, 1) := by decide +kernel
theorem dX0_hasEdge_15 : decode cX0_hasEdge 15 = .ok (.lconst 0, 1) := by decide +kernel
theorem dX0_hasEdge_16 : decode cX0_hasEdge 16 = .ok (.lcmp, 1) := by decide +kernel
theorem dX0_hasEdge_17 : decode cX0_hasEdge 17 = .ok (.ifCond .eq 7, 3) := by decide +kernel
theorem dX0_hasEdge_20 : decode cX0_hasEdge 20 = .ok (.iconst 1, 1) := by decide +kernel
theorem dX0_hasEdge_21 : decode cX0_hasEdge 21 = .ok (.goto 4, 3) := by decide +kernel
theorem dX0_hasEdge_24 : decode cX0_hasEdge 24 = .ok (.iconst 0, 1) := by decide +kernel
theorem dX0_hasEdge_25 : decode cX0_hasEdge 25 = .ok (.ireturn, 1) := by decide +kernel
set_option maxRecDepth 20000 in
theorem ggX0_addNeighbour_X0_wordOf : GoodIn wsX0_addNeighbour wsX0_wordOf := goodIn_r _ [6] (by decide +kernel) (by decide +kernel)
set_option maxRecDepth 20000 in
theorem gX0_addNeighbour_X0_wordOf : GoodIn wsX0_addNeighbour (va_wsS RX0 82 yX0_wordOf wsX0_wordOf) := goodIn_app (goodIn_of _ (by decide +kernel)) ggX0_addNeighbour_X0_wordOf
set_option maxRecDepth 20000 in
theorem ggX0_addNeighbour_X0_bitOf : GoodIn wsX0_addNeighbour wsX0_bitOf := goodIn_r _ [9] (by decide +kernel) (by decide +kernel)
set_option maxRecDepth 20000 in
theorem gX0_addNeighbour_X0_bitOf : GoodIn wsX0_addNeighbour (va_wsS RX0 86 yX0_bitOf wsX0_bitOf) := goodIn_app (goodIn_of _ (by decide +kernel)) ggX0_addNeighbour_X0_bitOf
theorem dX0_addNeighbour_0 : decode cX0_addNeighbour 0 = .ok (.aload_n 0, 1) := by decide +kernel
theorem dX0_addNeighbour_1 : decode cX0_addNeighbour 1 = .ok (.getfield 9, 3) := by decide +kernel
theorem dX0_addNeighbour_4 : decode cX0_addNeighbour 4 = .ok (.iload_n 1, 1) := by decide +kernel
theorem dX0_addNeighbour_5 : decode cX0_addNeighbour 5 = .ok (.iload_n 2, 1) := by decide +kernel
theorem dX0_addNeighbour_6 : decode cX0_addNeighbour 6 = .ok (.invokestatic 82, 3) := by decide +kernel
theorem dX0_addNeighbour_9 : decode cX0_addNeighbour 9 = .ok (.dup2, 1) := by decide +kernel
theorem dX0_addNeighbour_10 : decode cX0_addNeighbour 10 = .ok (.laload, 1) := by decide +kernel
theorem dX0_addNeighbour_11 : decode cX0_addNeighbour 11 = .ok (.iload_n 2, 1) := by decide +kernel
theorem dX0_addNeighbour_12 : decode cX0_addNeighbour 12 = .ok (.invokestatic 86, 3) := by decide +kernel
theorem dX0_addNeighbour_15 : decode cX0_addNeighbour 15 = .ok (.lor, 1) := by decide +kernel
theorem dX0_addNeighbour_16 : decode cX0_addNeighbour 16 = .ok (.lastore, 1) := by decide +kernel
theorem dX0_addNeighbour_17 : decode cX0_addNeighbour 17 = .ok (.aload_n 0, 1) := by decide +kernel
theorem dX0_addNeighbour_18 : decode cX0_addNeighbour 18 = .ok (.getfield 13, 3) := by decide +kernel
theorem dX0_addNeighbour_21 : decode cX0_addNeighbour 21 = .ok (.iload_n 1, 1) := by decide +kernel
theorem dX0_addNeighbour_22 : decode cX0_addNeighbour 22 = .ok (.dup2, 1) := by decide +kernel
theorem dX0_addNeighbour_23 : decode cX0_addNeighbour 23 = .ok (.iaload, 1) := by decide +kernel
theorem dX0_addNeighbour_24 : decode cX0_addNeighbour 24 = .ok (.iconst 1, 1) := by decide +kernel
theorem dX0_addNeighbour_25 : decode cX0_addNeighbour 25 = .ok (.iadd, 1) := by decide +kernel
theorem dX0_addNeighbour_26 : decode cX0_addNeighbour 26 = .ok (.iastore, 1) := by decide +kernel
theorem dX0_addNeighbour_27 : decode cX0_addNeighbour 27 = .ok (.return_, 1) := by decide +kernel
theorem dX0_wordOf_0 : decode cX0_wordOf 0 = .ok (.iload_n 0, 1) := by decide +kernel
theorem dX0_wordOf_1 : decode cX0_wordOf 1 = .ok (.iconst 4, 1) := by decide +kernel
theorem dX0_wordOf_2 : decode cX0_wordOf 2 = .ok (.imul, 1) := by decide +kernel
theorem dX0_wordOf_3 : decode cX0_wordOf 3 = .ok (.iload_n 1, 1) := by decide +kernel
theorem dX0_wordOf_4 : decode cX0_wordOf 4 = .ok (.bipush 64, 2) := by decide +kernel
theorem dX0_wordOf_6 : decode cX0_wordOf 6 = .ok (.idiv, 1) := by decide +kernel
theorem dX0_wordOf_7 : decode cX0_wordOf 7 = .ok (.iadd, 1) := by decide +kernel
theorem dX0_wordOf_8 : decode cX0_wordOf 8 = .ok (.ireturn, 1) := by decide +kernel
theorem dX0_bitOf_0 : decode cX0_bitOf 0 = .ok (.lconst 1, 1) := by decide +kernel
theorem dX0_bitOf_1 : decode cX0_bitOf 1 = .ok (.iload_n 0, 1) := by decide +kernel
theorem dX0_bitOf_2 : decode cX0_bitOf 2 = .ok (.bipush 64, 2) := by decide +kernel
theorem dX0_bitOf_4 : decode cX0_bitOf 4 = .ok (.irem, 1) := by decide +kernel
theorem dX0_bitOf_5 : decode cX0_bitOf 5 = .ok (.lshl, 1) := by decide +kernel
theorem dX0_bitOf_6 : decode cX0_bitOf 6 = .ok (.lreturn, 1) := by decide +kernel
set_option maxRecDepth 20000 in
theorem ggX0_takeAllOut_X0_nextOut : GoodIn wsX0_takeAllOut wsX0_nextOut := goodIn_r _ [10, 1, 2, 3, 11, 12, 13, 14, 9, 15, 16, 36, 37, 38, 39, 40, 41, 42, 43, 44, 45, 46] (by decide +kernel) (by decide +kernel)
set_option maxRecDepth 20000 in
theorem gX0_takeAllOut_X0_nextOut : GoodIn wsX0_takeAllOut (wsV RX0 90 RX0 yX0_nextOut wsX0_nextOut) := goodIn_app (goodIn_of _ (by decide +kernel)) ggX0_takeAllOut_X0_nextOut
set_option maxRecDepth 20000 in
theorem ggX0_takeAllOut_X0_takeOut : GoodIn wsX0_takeAllOut wsX0_takeOut := goodIn_r _ [20, 2, 1, 3, 21, 22, 23, 9, 24, 25, 26, 27, 28, 29, 30, 31, 32, 33, 34, 35, 36, 37, 38, 39, 40, 41, 42, 43, 44, 45, 46] (by decide +kernel) (by decide +kernel)
set_option maxRecDepth 20000 in
theorem gX0_takeAllOut_X0_takeOut : GoodIn wsX0_takeAllOut (wsV RX0 93 RX0 yX0_takeOut wsX0_takeOut) := goodIn_app (goodIn_of _ (by decide +kernel)) ggX0_takeAllOut_X0_takeOut
theorem dX0_takeAllOut_0 : decode cX0_takeAllOut 0 = .ok (.iconst 0, 1) := by decide +kernel
theorem dX0_takeAllOut_1 : decode cX0_takeAllOut 1 = .ok (.istore_n 1, 1) := by decide +kernel
theorem dX0_takeAllOut_2 : decode cX0_takeAllOut 2 = .ok (.iload_n 1, 1) := by decide +kernel
theorem dX0_takeAllOut_3 : decode cX0_takeAllOut 3 = .ok (.aload_n 0, 1) := by decide +kernel
theorem dX0_takeAllOut_4 : decode cX0_takeAllOut 4 = .ok (.getfield 66, 3) := by decide +kernel
theorem dX0_takeAllOut_7 : decode cX0_takeAllOut 7 = .ok (.if_icmp .ge 28, 3) := by decide +kernel
theorem dX0_takeAllOut_10 : decode cX0_takeAllOut 10 = .ok (.aload_n 0, 1) := by decide +kernel
theorem dX0_takeAllOut_11 : decode cX0_takeAllOut 11 = .ok (.getfield 26, 3) := by decide +kernel
theorem dX0_takeAllOut_14 : decode cX0_takeAllOut 14 = .ok (.iload_n 1, 1) := by decide +kernel
theorem dX0_takeAllOut_15 : decode cX0_takeAllOut 15 = .ok (.iconst 0, 1) := by decide +kernel
theorem dX0_takeAllOut_16 : decode cX0_takeAllOut 16 = .ok (.bastore, 1) := by decide +kernel
theorem dX0_takeAllOut_17 : decode cX0_takeAllOut 17 = .ok (.aload_n 0, 1) := by decide +kernel
theorem dX0_takeAllOut_18 : decode cX0_takeAllOut 18 = .ok (.getfield 30, 3) := by decide +kernel
theorem dX0_takeAllOut_21 : decode cX0_takeAllOut 21 = .ok (.iload_n 1, 1) := by decide +kernel
theorem dX0_takeAllOut_22 : decode cX0_takeAllOut 22 = .ok (.aload_n 0, 1) := by decide +kernel
theorem dX0_takeAllOut_23 : decode cX0_takeAllOut 23 = .ok (.getfield 13, 3) := by decide +kernel
theorem dX0_takeAllOut_26 : decode cX0_takeAllOut 26 = .ok (.iload_n 1, 1) := by decide +kernel
theorem dX0_takeAllOut_27 : decode cX0_takeAllOut 27 = .ok (.iaload, 1) := by decide +kernel
theorem dX0_takeAllOut_28 : decode cX0_takeAllOut 28 = .ok (.iastore, 1) := by decide +kernel
theorem dX0_takeAllOut_29 : decode cX0_takeAllOut 29 = .ok (.iinc 1 1, 3) := by decide +kernel
theorem dX0_takeAllOut_32 : decode cX0_takeAllOut 32 = .ok (.goto (-30), 3) := by decide +kernel
theorem dX0_takeAllOut_35 : decode cX0_takeAllOut 35 = .ok (.iconst 0, 1) := by decide +kernel
theorem dX0_takeAllOut_36 : decode cX0_takeAllOut 36 = .ok (.istore_n 1, 1) := by decide +kernel
theorem dX0_takeAllOut_37 : decode cX0_takeAllOut 37 = .ok (.iload_n 1, 1) := by decide +kernel
theorem dX0_takeAllOut_38 : decode cX0_takeAllOut 38 = .ok (.aload_n 0, 1) := by decide +kernel
theorem dX0_takeAllOut_39 : decode cX0_takeAllOut 39 = .ok (.getfield 66, 3) := by decide +kernel
theorem dX0_takeAllOut_42 : decode cX0_takeAllOut 42 = .ok (.if_icmp .ge 29, 3) := by decide +kernel
theorem dX0_takeAllOut_45 : decode cX0_takeAllOut 45 = .ok (.aload_n 0, 1) := by decide +kernel
theorem dX0_takeAllOut_46 : decode cX0_takeAllOut 46 = .ok (.getfield 23, 3) := by decide +kernel
theorem dX0_takeAllOut_49 : decode cX0_takeAllOut 49 = .ok (.iload_n 1, 1) := by decide +kernel
theorem dX0_takeAllOut_50 : decode cX0_takeAllOut 50 = .ok (.aload_n 0, 1) := by decide +kernel
theorem dX0_takeAllOut_51 : decode cX0_takeAllOut 51 = .ok (.invokevirtual 90, 3) := by decide +kernel
theorem dX0_takeAllOut_54 : decode cX0_takeAllOut 54 = .ok (.iastore, 1) := by decide +kernel
theorem dX0_takeAllOut_55 : decode cX0_takeAllOut 55 = .ok (.aload_n 0, 1) := by decide +kernel
theorem dX0_takeAllOut_56 : decode cX0_takeAllOut 56 = .ok (.aload_n 0, 1) := by decide +kernel
theorem dX0_takeAllOut_57 : decode cX0_takeAllOut 57 = .ok (.getfield 23, 3) := by decide +kernel
theorem dX0_takeAllOut_60 : decode cX0_takeAllOut 60 = .ok (.iload_n 1, 1) := by decide +kernel
theorem dX0_takeAllOut_61 : decode cX0_takeAllOut 61 = .ok (.iaload, 1) := by decide +kernel
theorem dX0_takeAllOut_62 : decode cX0_takeAllOut 62 = .ok (.invokevirtual 93, 3) := by decide +kernel
theorem dX0_takeAllOut_65 : decode cX0_takeAllOut 65 = .ok (.iinc 1 1, 3) := by decide +kernel
theorem dX0_takeAllOut_68 : decode cX0_takeAllOut 68 = .ok (.goto (-31), 3) := by decide +kernel
theorem dX0_takeAllOut_71 : decode cX0_takeAllOut 71 = .ok (.return_, 1) := by decide +kernel
set_option maxRecDepth 20000 in
theorem ggX0_nextOut_X0_isCheaper : GoodIn wsX0_nextOut wsX0_isCheaper := goodIn_r _ [9, 10, 3, 11, 12, 13, 14, 15, 16, 17, 18, 19, 20, 21] (by decide +kernel) (by decide +kernel)
set_option maxRecDepth 20000 in
theorem gX0_nextOut_X0_isCheaper : GoodIn wsX0_nextOut (wsV RX0 97 RX0 yX0_isCheaper wsX0_isCheaper) := goodIn_app (goodIn_of _ (by decide +kernel)) ggX0_nextOut_X0_isCheaper
theorem dX0_nextOut_0 : decode cX0_nextOut 0 = .ok (.iconst (-1), 1) := by decide +kernel
theorem dX0_nextOut_1 : decode cX0_nextOut 1 = .ok (.istore_n 1, 1) := by decide +kernel
theorem dX0_nextOut_2 : decode cX0_nextOut 2 = .ok (.iconst 0, 1) := by decide +kernel
theorem dX0_nextOut_3 : decode cX0_nextOut 3 = .ok (.istore_n 2, 1) := by decide +kernel
theorem dX0_nextOut_4 : decode cX0_nextOut 4 = .ok (.iload_n 2, 1) := by decide +kernel
theorem dX0_nextOut_5 : decode cX0_nextOut 5 = .ok (.aload_n 0, 1) := by decide +kernel
theorem dX0_nextOut_6 : decode cX0_nextOut 6 = .ok (.getfield 66, 3) := by decide +kernel
theorem dX0_nextOut_9 : decode cX0_nextOut 9 = .ok (.if_icmp .ge 52, 3) := by decide +kernel
theorem dX0_nextOut_12 : decode cX0_nextOut 12 = .ok (.aload_n 0, 1) := by decide +kernel
theorem dX0_nextOut_13 : decode cX0_nextOut 13 = .ok (.getfield 26, 3) := by decide +kernel
theorem dX0_nextOut_16 : decode cX0_nextOut 16 = .ok (.iload_n 2, 1) := by decide +kernel
theorem dX0_nextOut_17 : decode cX0_nextOut 17 = .ok (.baload, 1) := by decide +kernel
theorem dX0_nextOut_18 : decode cX0_nextOut 18 = .ok (.ifCond .eq 6, 3) := by decide +kernel
theorem dX0_nextOut_21 : decode cX0_nextOut 21 = .ok (.goto 34, 3) := by decide +kernel
theorem dX0_nextOut_24 : decode cX0_nextOut 24 = .ok (.aload_n 0, 1) := by decide +kernel
theorem dX0_nextOut_25 : decode cX0_nextOut 25 = .ok (.getfield 30, 3) := by decide +kernel
theorem dX0_nextOut_28 : decode cX0_nextOut 28 = .ok (.iload_n 2, 1) := by decide +kernel
theorem dX0_nextOut_29 : decode cX0_nextOut 29 = .ok (.iaload, 1) := by decide +kernel
theorem dX0_nextOut_30 : decode cX0_nextOut 30 = .ok (.aload_n 0, 1) := by decide +kernel
theorem dX0_nextOut_31 : decode cX0_nextOut 31 = .ok (.getfield 70, 3) := by decide +kernel
theorem dX0_nextOut_34 : decode cX0_nextOut 34 = .ok (.if_icmp .ge 5, 3) := by decide +kernel
theorem dX0_nextOut_37 : decode cX0_nextOut 37 = .ok (.iload_n 2, 1) := by decide +kernel
theorem dX0_nextOut_38 : decode cX0_nextOut 38 = .ok (.ireturn, 1) := by decide +kernel
theorem dX0_nextOut_39 : decode cX0_nextOut 39 = .ok (.iload_n 1, 1) := by decide +kernel
theorem dX0_nextOut_40 : decode cX0_nextOut 40 = .ok (.iconst (-1), 1) := by decide +kernel
theorem dX0_nextOut_41 : decode cX0_nextOut 41 = .ok (.if_icmp .eq 12, 3) := by decide +kernel
theorem dX0_nextOut_44 : decode cX0_nextOut 44 = .ok (.aload_n 0, 1) := by decide +kernel
theorem dX0_nextOut_45 : decode cX0_nextOut 45 = .ok (.iload_n 2, 1) := by decide +kernel
theorem dX0_nextOut_46 : decode cX0_nextOut 46 = .ok (.iload_n 1, 1) := by decide +kernel
theorem dX0_nextOut_47 : decode cX0_nextOut 47 = .ok (.invokevirtual 97, 3) := by decide +kernel
theorem dX0_nextOut_50 : decode cX0_nextOut 50 = .ok (.ifCond .eq 5, 3) := by decide +kernel
theorem dX0_nextOut_53 : decode cX0_nextOut 53 = .ok (.iload_n 2, 1) := by decide +kernel
theorem dX0_nextOut_54 : decode cX0_nextOut 54 = .ok (.istore_n 1, 1) := by decide +kernel
theorem dX0_nextOut_55 : decode cX0_nextOut 55 = .ok (.iinc 2 1, 3) := by decide +kernel
theorem dX0_nextOut_58 : decode cX0_nextOut 58 = .ok (.goto (-54), 3) := by decide +kernel
theorem dX0_nextOut_61 : decode cX0_nextOut 61 = .ok (.iload_n 1, 1) := by decide +kernel
theorem dX0_nextOut_62 : decode cX0_nextOut 62 = .ok (.ireturn, 1) := by decide +kernel
theorem dX0_isCheaper_0 : decode cX0_isCheaper 0 = .ok (.aload_n 0, 1) := by decide +kernel
theorem dX0_isCheaper_1 : decode cX0_isCheaper 1 = .ok (.getfield 17, 3) := by decide +kernel
theorem dX0_isCheaper_4 : decode cX0_isCheaper 4 = .ok (.iload_n 1, 1) := by decide +kernel
theorem dX0_isCheaper_5 : decode cX0_isCheaper 5 = .ok (.iaload, 1) := by decide +kernel
theorem dX0_isCheaper_6 : decode cX0_isCheaper 6 = .ok (.i2l, 1) := by decide +kernel
theorem dX0_isCheaper_7 : decode cX0_isCheaper 7 = .ok (.aload_n 0, 1) := by decide +kernel
theorem dX0_isCheaper_8 : decode cX0_isCheaper 8 = .ok (.getfield 30, 3) := by decide +kernel
theorem dX0_isCheaper_11 : decode cX0_isCheaper 11 = .ok (.iload_n 2, 1) := by decide +kernel
theorem dX0_isCheaper_12 : decode cX0_isCheaper 12 = .ok (.iaload, 1) := by decide +kernel
theorem dX0_isCheaper_13 : decode cX0_isCheaper 13 = .ok (.i2l, 1) := by decide +kernel
theorem dX0_isCheaper_14 : decode cX0_isCheaper 14 = .ok (.lmul, 1) := by decide +kernel
theorem dX0_isCheaper_15 : decode cX0_isCheaper 15 = .ok (.aload_n 0, 1) := by decide +kernel
theorem dX0_isCheaper_16 : decode cX0_isCheaper 16 = .ok (.getfield 17, 3) := by decide +kernel
theorem dX0_isCheaper_19 : decode cX0_isCheaper 19 = .ok (.iload_n 2, 1) := by decide +kernel
theorem dX0_isCheaper_20 : decode cX0_isCheaper 20 = .ok (.iaload, 1) := by decide +kernel
theorem dX0_isCheaper_21 : decode cX0_isCheaper 21 = .ok (.i2l, 1) := by decide +kernel
theorem dX0_isCheaper_22 : decode cX0_isCheaper 22 = .ok (.aload_n 0, 1) := by decide +kernel
theorem dX0_isCheaper_23 : decode cX0_isCheaper 23 = .ok (.getfield 30, 3) := by decide +kernel
theorem dX0_isCheaper_26 : decode cX0_isCheaper 26 = .ok (.iload_n 1, 1) := by decide +kernel
theorem dX0_isCheaper_27 : decode cX0_isCheaper 27 = .ok (.iaload, 1) := by decide +kernel
theorem dX0_isCheaper_28 : decode cX0_isCheaper 28 = .ok (.i2l, 1) := by decide +kernel
theorem dX0_isCheaper_29 : decode cX0_isCheaper 29 = .ok (.lmul, 1) := by decide +kernel
theorem dX0_isCheaper_30 : decode cX0_isCheaper 30 = .ok (.lcmp, 1) := by decide +kernel
theorem dX0_isCheaper_31 : decode cX0_isCheaper 31 = .ok (.ifCond .ge 7, 3) := by decide +kernel
theorem dX0_isCheaper_34 : decode cX0_isCheaper 34 = .ok (.iconst 1, 1) := by decide +kernel
theorem dX0_isCheaper_35 : decode cX0_isCheaper 35 = .ok (.goto 4, 3) := by decide +kernel
theorem dX0_isCheaper_38 : decode cX0_isCheaper 38 = .ok (.iconst 0, 1) := by decide +kernel
theorem dX0_isCheaper_39 : decode cX0_isCheaper 39 = .ok (.ireturn, 1) := by decide +kernel
set_option maxRecDepth 20000 in
theorem ggX0_takeOut_X0_isPoint : GoodIn wsX0_takeOut wsX0_isPoint := goodIn_r _ [8, 2, 20, 21, 22, 23, 24, 25, 26, 27, 28, 29, 30] (by decide +kernel) (by decide +kernel)
set_option maxRecDepth 20000 in
theorem gX0_takeOut_X0_isPoint : GoodIn wsX0_takeOut (wsV RX0 40 RX0 yX0_isPoint wsX0_isPoint) := goodIn_app (goodIn_of _ (by decide +kernel)) ggX0_takeOut_X0_isPoint
set_option maxRecDepth 20000 in
theorem ggX0_takeOut_X0_hasEdge : GoodIn wsX0_takeOut wsX0_hasEdge := goodIn_r _ [12, 13, 14, 15, 7, 16, 17, 18, 19, 20, 21, 22, 23, 24, 25, 26, 27, 28, 29, 30] (by decide +kernel) (by decide +kernel)
set_option maxRecDepth 20000 in
theorem gX0_takeOut_X0_hasEdge : GoodIn wsX0_takeOut (wsV RX0 44 RX0 yX0_hasEdge wsX0_hasEdge) := goodIn_app (goodIn_of _ (by decide +kernel)) ggX0_takeOut_X0_hasEdge
theorem dX0_takeOut_0 : decode cX0_takeOut 0 = .ok (.aload_n 0, 1) := by decide +kernel
theorem dX0_takeOut_1 : decode cX0_takeOut 1 = .ok (.iload_n 1, 1) := by decide +kernel
theorem dX0_takeOut_2 : decode cX0_takeOut 2 = .ok (.invokevirtual 40, 3) := by decide +kernel
theorem dX0_takeOut_5 : decode cX0_takeOut 5 = .ok (.ifCond .ne 4, 3) := by decide +kernel
theorem dX0_takeOut_8 : decode cX0_takeOut 8 = .ok (.return_, 1) := by decide +kernel
theorem dX0_takeOut_9 : decode cX0_takeOut 9 = .ok (.aload_n 0, 1) := by decide +kernel
theorem dX0_takeOut_10 : decode cX0_takeOut 10 = .ok (.getfield 26, 3) := by decide +kernel
theorem dX0_takeOut_13 : decode cX0_takeOut 13 = .ok (.iload_n 1, 1) := by decide +kernel
theorem dX0_takeOut_14 : decode cX0_takeOut 14 = .ok (.iconst 1, 1) := by decide +kernel
theorem dX0_takeOut_15 : decode cX0_takeOut 15 = .ok (.bastore, 1) := by decide +kernel
theorem dX0_takeOut_16 : decode cX0_takeOut 16 = .ok (.iconst 0, 1) := by decide +kernel
theorem dX0_takeOut_17 : decode cX0_takeOut 17 = .ok (.istore_n 2, 1) := by decide +kernel
theorem dX0_takeOut_18 : decode cX0_takeOut 18 = .ok (.iload_n 2, 1) := by decide +kernel
theorem dX0_takeOut_19 : decode cX0_takeOut 19 = .ok (.aload_n 0, 1) := by decide +kernel
theorem dX0_takeOut_20 : decode cX0_takeOut 20 = .ok (.getfield 66, 3) := by decide +kernel
theorem dX0_takeOut_23 : decode cX0_takeOut 23 = .ok (.if_icmp .ge 28, 3) := by decide +kernel
theorem dX0_takeOut_26 : decode cX0_takeOut 26 = .ok (.aload_n 0, 1) := by decide +kernel
theorem dX0_takeOut_27 : decode cX0_takeOut 27 = .ok (.iload_n 1, 1) := by decide +kernel
theorem dX0_takeOut_28 : decode cX0_takeOut 28 = .ok (.iload_n 2, 1) := by decide +kernel
theorem dX0_takeOut_29 : decode cX0_takeOut 29 = .ok (.invokevirtual 44, 3) := by decide +kernel
theorem dX0_takeOut_32 : decode cX0_takeOut 32 = .ok (.ifCond .eq 13, 3) := by decide +kernel
theorem dX0_takeOut_35 : decode cX0_takeOut 35 = .ok (.aload_n 0, 1) := by decide +kernel
theorem dX0_takeOut_36 : decode cX0_takeOut 36 = .ok (.getfield 30, 3) := by decide +kernel
theorem dX0_takeOut_39 : decode cX0_takeOut 39 = .ok (.iload_n 2, 1) := by decide +kernel
theorem dX0_takeOut_40 : decode cX0_takeOut 40 = .ok (.dup2, 1) := by decide +kernel
theorem dX0_takeOut_41 : decode cX0_takeOut 41 = .ok (.iaload, 1) := by decide +kernel
theorem dX0_takeOut_42 : decode cX0_takeOut 42 = .ok (.iconst 1, 1) := by decide +kernel
theorem dX0_takeOut_43 : decode cX0_takeOut 43 = .ok (.isub, 1) := by decide +kernel
theorem dX0_takeOut_44 : decode cX0_takeOut 44 = .ok (.iastore, 1) := by decide +kernel
theorem dX0_takeOut_45 : decode cX0_takeOut 45 = .ok (.iinc 2 1, 3) := by decide +kernel
theorem dX0_takeOut_48 : decode cX0_takeOut 48 = .ok (.goto (-30), 3) := by decide +kernel
theorem dX0_takeOut_51 : decode cX0_takeOut 51 = .ok (.return_, 1) := by decide +kernel
set_option maxRecDepth 20000 in
theorem ggX0_putAllBack_J7_fill_53178 : GoodIn wsX0_putAllBack wsJ7_fill_53178 := goodIn_r _ [7] (by decide +kernel) (by decide +kernel)
set_option maxRecDepth 20000 in
theorem gX0_putAllBack_J7_fill_53178 : GoodIn wsX0_putAllBack (va_wsS RX0 79 yJ7_fill_53178 wsJ7_fill_53178) := goodIn_app (goodIn_of _ (by decide +kernel)) ggX0_putAllBack_J7_fill_53178
set_option maxRecDepth 20000 in
theorem ggX0_putAllBack_X0_isPoint : GoodIn wsX0_putAllBack wsX0_isPoint := goodIn_r _ [12, 2, 41, 42, 43, 44, 45, 46, 47, 48, 49, 50, 51] (by decide +kernel) (by decide +kernel)
set_option maxRecDepth 20000 in
theorem gX0_putAllBack_X0_isPoint : GoodIn wsX0_putAllBack (wsV RX0 40 RX0 yX0_isPoint wsX0_isPoint) := goodIn_app (goodIn_of _ (by decide +kernel)) ggX0_putAllBack_X0_isPoint
set_option maxRecDepth 20000 in
theorem ggX0_putAllBack_X0_chooseColour : GoodIn wsX0_putAllBack wsX0_chooseColour := goodIn_r _ [16, 17, 18, 19, 20, 11, 21, 2, 1, 22, 23, 24, 25, 26, 27, 28, 29, 30, 31, 32, 33, 34, 35, 36, 37, 8, 9, 10, 12, 38, 39, 40, 41, 42, 43, 44, 45, 46, 47, 48, 49, 50, 51] (by decide +kernel) (by decide +kernel)
set_option maxRecDepth 20000 in
theorem gX0_putAllBack_X0_chooseColour : GoodIn wsX0_putAllBack (wsV RX0 100 RX0 yX0_chooseColour wsX0_chooseColour) := goodIn_app (goodIn_of _ (by decide +kernel)) ggX0_putAllBack_X0_chooseColour
theorem dX0_putAllBack_0 : decode cX0_putAllBack 0 = .ok (.aload_n 0, 1) := by decide +kernel
theorem dX0_putAllBack_1 : decode cX0_putAllBack 1 = .ok (.getfield 33, 3) := by decide +kernel
theorem dX0_putAllBack_4 : decode cX0_putAllBack 4 = .ok (.iconst (-1), 1) := by decide +kernel
theorem dX0_putAllBack_5 : decode cX0_putAllBack 5 = .ok (.invokestatic 79, 3) := by decide +kernel
theorem dX0_putAllBack_8 : decode cX0_putAllBack 8 = .ok (.aload_n 0, 1) := by decide +kernel
theorem dX0_putAllBack_9 : decode cX0_putAllBack 9 = .ok (.getfield 66, 3) := by decide +kernel
theorem dX0_putAllBack_12 : decode cX0_putAllBack 12 = .ok (.iconst 1, 1) := by decide +kernel
theorem dX0_putAllBack_13 : decode cX0_putAllBack 13 = .ok (.isub, 1) := by decide +kernel
theorem dX0_putAllBack_14 : decode cX0_putAllBack 14 = .ok (.istore_n 1, 1) := by decide +kernel
theorem dX0_putAllBack_15 : decode cX0_putAllBack 15 = .ok (.iload_n 1, 1) := by decide +kernel
theorem dX0_putAllBack_16 : decode cX0_putAllBack 16 = .ok (.ifCond .lt 35, 3) := by decide +kernel
theorem dX0_putAllBack_19 : decode cX0_putAllBack 19 = .ok (.aload_n 0, 1) := by decide +kernel
theorem dX0_putAllBack_20 : decode cX0_putAllBack 20 = .ok (.getfield 23, 3) := by decide +kernel
theorem dX0_putAllBack_23 : decode cX0_putAllBack 23 = .ok (.iload_n 1, 1) := by decide +kernel
theorem dX0_putAllBack_24 : decode cX0_putAllBack 24 = .ok (.iaload, 1) := by decide +kernel
theorem dX0_putAllBack_25 : decode cX0_putAllBack 25 = .ok (.istore_n 2, 1) := by decide +kernel
theorem dX0_putAllBack_26 : decode cX0_putAllBack 26 = .ok (.aload_n 0, 1) := by decide +kernel
theorem dX0_putAllBack_27 : decode cX0_putAllBack 27 = .ok (.iload_n 2, 1) := by decide +kernel
theorem dX0_putAllBack_28 : decode cX0_putAllBack 28 = .ok (.invokevirtual 40, 3) := by decide +kernel
theorem dX0_putAllBack_31 : decode cX0_putAllBack 31 = .ok (.ifCond .eq 14, 3) := by decide +kernel
theorem dX0_putAllBack_34 : decode cX0_putAllBack 34 = .ok (.aload_n 0, 1) := by decide +kernel
theorem dX0_putAllBack_35 : decode cX0_putAllBack 35 = .ok (.getfield 33, 3) := by decide +kernel
theorem dX0_putAllBack_38 : decode cX0_putAllBack 38 = .ok (.iload_n 2, 1) := by decide +kernel
theorem dX0_putAllBack_39 : decode cX0_putAllBack 39 = .ok (.aload_n 0, 1) := by decide +kernel
theorem dX0_putAllBack_40 : decode cX0_putAllBack 40 = .ok (.iload_n 2, 1) := by decide +kernel
theorem dX0_putAllBack_41 : decode cX0_putAllBack 41 = .ok (.invokevirtual 100, 3) := by decide +kernel
theorem dX0_putAllBack_44 : decode cX0_putAllBack 44 = .ok (.iastore, 1) := by decide +kernel
theorem dX0_putAllBack_45 : decode cX0_putAllBack 45 = .ok (.iinc 1 (-1), 3) := by decide +kernel
theorem dX0_putAllBack_48 : decode cX0_putAllBack 48 = .ok (.goto (-33), 3) := by decide +kernel
theorem dX0_putAllBack_51 : decode cX0_putAllBack 51 = .ok (.return_, 1) := by decide +kernel
set_option maxRecDepth 20000 in
theorem ggX0_chooseColour_X0_coloursAround : GoodIn wsX0_chooseColour wsX0_coloursAround := goodIn_r _ [6, 7, 8, 9, 10, 11, 5, 12, 13, 14, 15, 16, 17, 18, 19, 32, 33, 34, 35, 36, 37, 38, 39, 40, 41, 42] (by decide +kernel) (by decide +kernel)
set_option maxRecDepth 20000 in
theorem gX0_chooseColour_X0_coloursAround : GoodIn wsX0_chooseColour (wsV RX0 104 RX0 yX0_coloursAround wsX0_coloursAround) := goodIn_app (goodIn_of _ (by decide +kernel)) ggX0_chooseColour_X0_coloursAround
set_option maxRecDepth 20000 in
theorem ggX0_chooseColour_X0_wishedColour : GoodIn wsX0_chooseColour wsX0_wishedColour := goodIn_r _ [23, 24, 8, 25, 26, 27, 5, 28, 7, 32, 33, 34, 35, 36, 37, 38, 39, 40, 41, 42] (by decide +kernel) (by decide +kernel)
set_option maxRecDepth 20000 in
theorem gX0_chooseColour_X0_wishedColour : GoodIn wsX0_chooseColour (wsV RX0 107 RX0 yX0_wishedColour wsX0_wishedColour) := goodIn_app (goodIn_of _ (by decide +kernel)) ggX0_chooseColour_X0_wishedColour
set_option maxRecDepth 20000 in
theorem ggX0_chooseColour_X0_isFree : GoodIn wsX0_chooseColour wsX0_isFree := goodIn_r _ [31] (by decide +kernel) (by decide +kernel)
set_option maxRecDepth 20000 in
theorem gX0_chooseColour_X0_isFree : GoodIn wsX0_chooseColour (va_wsS RX0 110 yX0_isFree wsX0_isFree) := goodIn_app (goodIn_of _ (by decide +kernel)) ggX0_chooseColour_X0_isFree
theorem dX0_chooseColour_0 : decode cX0_chooseColour 0 = .ok (.aload_n 0, 1) := by decide +kernel
theorem dX0_chooseColour_1 : decode cX0_chooseColour 1 = .ok (.iload_n 1, 1) := by decide +kernel
theorem dX0_chooseColour_2 : decode cX0_chooseColour 2 = .ok (.invokevirtual 104, 3) := by decide +kernel
theorem dX0_chooseColour_5 : decode cX0_chooseColour 5 = .ok (.istore_n 2, 1) := by decide +kernel
theorem dX0_chooseColour_6 : decode cX0_chooseColour 6 = .ok (.aload_n 0, 1) := by decide +kernel
theorem dX0_chooseColour_7 : decode cX0_chooseColour 7 = .ok (.iload_n 1, 1) := by decide +kernel
theorem dX0_chooseColour_8 : decode cX0_chooseColour 8 = .ok (.invokevirtual 107, 3) := by decide +kernel
theorem dX0_chooseColour_11 : decode cX0_chooseColour 11 = .ok (.istore_n 3, 1) := by decide +kernel
theorem dX0_chooseColour_12 : decode cX0_chooseColour 12 = .ok (.iload_n 3, 1) := by decide +kernel
theorem dX0_chooseColour_13 : decode cX0_chooseColour 13 = .ok (.iconst (-1), 1) := by decide +kernel
theorem dX0_chooseColour_14 : decode cX0_chooseColour 14 = .ok (.if_icmp .eq 13, 3) := by decide +kernel
theorem dX0_chooseColour_17 : decode cX0_chooseColour 17 = .ok (.iload_n 3, 1) := by decide +kernel
theorem dX0_chooseColour_18 : decode cX0_chooseColour 18 = .ok (.iload_n 2, 1) := by decide +kernel
theorem dX0_chooseColour_19 : decode cX0_chooseColour 19 = .ok (.invokestatic 110, 3) := by decide +kernel
theorem dX0_chooseColour_22 : decode cX0_chooseColour 22 = .ok (.ifCond .eq 5, 3) := by decide +kernel
theorem dX0_chooseColour_25 : decode cX0_chooseColour 25 = .ok (.iload_n 3, 1) := by decide +kernel
theorem dX0_chooseColour_26 : decode cX0_chooseColour 26 = .ok (.ireturn, 1) := by decide +kernel
theorem dX0_chooseColour_27 : decode cX0_chooseColour 27 = .ok (.iconst 0, 1) := by decide +kernel
theorem dX0_chooseColour_28 : decode cX0_chooseColour 28 = .ok (.istore 4, 2) := by decide +kernel
theorem dX0_chooseColour_30 : decode cX0_chooseColour 30 = .ok (.iload 4, 2) := by decide +kernel
theorem dX0_chooseColour_32 : decode cX0_chooseColour 32 = .ok (.aload_n 0, 1) := by decide +kernel
theorem dX0_chooseColour_33 : decode cX0_chooseColour 33 = .ok (.getfield 70, 3) := by decide +kernel
theorem dX0_chooseColour_36 : decode cX0_chooseColour 36 = .ok (.if_icmp .ge 21, 3) := by decide +kernel
theorem dX0_chooseColour_39 : decode cX0_chooseColour 39 = .ok (.iload 4, 2) := by decide +kernel
theorem dX0_chooseColour_41 : decode cX0_chooseColour 41 = .ok (.iload_n 2, 1) := by decide +kernel
theorem dX0_chooseColour_42 : decode cX0_chooseColour 42 = .ok (.invokestatic 110, 3) := by decide +kernel
theorem dX0_chooseColour_45 : decode cX0_chooseColour 45 = .ok (.ifCond .eq 6, 3) := by decide +kernel
theorem dX0_chooseColour_48 : decode cX0_chooseColour 48 = .ok (.iload 4, 2) := by decide +kernel
theorem dX0_chooseColour_50 : decode cX0_chooseColour 50 = .ok (.ireturn, 1) := by decide +kernel
theorem dX0_chooseColour_51 : decode cX0_chooseColour 51 = .ok (.iinc 4 1, 3) := by decide +kernel
theorem dX0_chooseColour_54 : decode cX0_chooseColour 54 = .ok (.goto (-24), 3) := by decide +kernel
theorem dX0_chooseColour_57 : decode cX0_chooseColour 57 = .ok (.iconst (-1), 1) := by decide +kernel
theorem dX0_chooseColour_58 : decode cX0_chooseColour 58 = .ok (.ireturn, 1) := by decide +kernel
set_option maxRecDepth 20000 in
theorem ggX0_coloursAround_X0_hasEdge : GoodIn wsX0_coloursAround wsX0_hasEdge := goodIn_r _ [7, 8, 9, 10, 6, 11, 12, 13, 14, 15, 16, 17, 18, 19, 20, 21, 22, 23, 24, 25] (by decide +kernel) (by decide +kernel)
set_option maxRecDepth 20000 in
theorem gX0_coloursAround_X0_hasEdge : GoodIn wsX0_coloursAround (wsV RX0 44 RX0 yX0_hasEdge wsX0_hasEdge) := goodIn_app (goodIn_of _ (by decide +kernel)) ggX0_coloursAround_X0_hasEdge
theorem dX0_coloursAround_0 : decode cX0_coloursAround 0 = .ok (.iconst 0, 1) := by decide +kernel
theorem dX0_coloursAround_1 : decode cX0_coloursAround 1 = .ok (.istore_n 2, 1) := by decide +kernel
theorem dX0_coloursAround_2 : decode cX0_coloursAround 2 = .ok (.iconst 0, 1) := by decide +kernel
theorem dX0_coloursAround_3 : decode cX0_coloursAround 3 = .ok (.istore_n 3, 1) := by decide +kernel
theorem dX0_coloursAround_4 : decode cX0_coloursAround 4 = .ok (.iload_n 3, 1) := by decide +kernel
theorem dX0_coloursAround_5 : decode cX0_coloursAround 5 = .ok (.aload_n 0, 1) := by decide +kernel
theorem dX0_coloursAround_6 : decode cX0_coloursAround 6 = .ok (.getfield 66, 3) := by decide +kernel
theorem dX0_coloursAround_9 : decode cX0_coloursAround 9 = .ok (.if_icmp .ge 39, 3) := by decide +kernel
theorem dX0_coloursAround_12 : decode cX0_coloursAround 12 = .ok (.aload_n 0, 1) := by decide +kernel
theorem dX0_coloursAround_13 : decode cX0_coloursAround 13 = .ok (.getfield 33, 3) := by decide +kernel
theorem dX0_coloursAround_16 : decode cX0_coloursAround 16 = .ok (.iload_n 3, 1) := by decide +kernel
theorem dX0_coloursAround_17 : decode cX0_coloursAround 17 = .ok (.iaload, 1) := by decide +kernel
theorem dX0_coloursAround_18 : decode cX0_coloursAround 18 = .ok (.iconst (-1), 1) := by decide +kernel
theorem dX0_coloursAround_19 : decode cX0_coloursAround 19 = .ok (.if_icmp .eq 23, 3) := by decide +kernel
theorem dX0_coloursAround_22 : decode cX0_coloursAround 22 = .ok (.aload_n 0, 1) := by decide +kernel
theorem dX0_coloursAround_23 : decode cX0_coloursAround 23 = .ok (.iload_n 1, 1) := by decide +kernel
theorem dX0_coloursAround_24 : decode cX0_coloursAround 24 = .ok (.iload_n 3, 1) := by decide +kernel
theorem dX0_coloursAround_25 : decode cX0_coloursAround 25 = .ok (.invokevirtual 44, 3) := by decide +kernel
theorem dX0_coloursAround_28 : decode cX0_coloursAround 28 = .ok (.ifCond .eq 14, 3) := by decide +kernel
theorem dX0_coloursAround_31 : decode cX0_coloursAround 31 = .ok (.iload_n 2, 1) := by decide +kernel
theorem dX0_coloursAround_32 : decode cX0_coloursAround 32 = .ok (.iconst 1, 1) := by decide +kernel
theorem dX0_coloursAround_33 : decode cX0_coloursAround 33 = .ok (.aload_n 0, 1) := by decide +kernel
theorem dX0_coloursAround_34 : decode cX0_coloursAround 34 = .ok (.getfield 33, 3) := by decide +kernel
theorem dX0_coloursAround_37 : decode cX0_coloursAround 37 = .ok (.iload_n 3, 1) := by decide +kernel
theorem dX0_coloursAround_38 : decode cX0_coloursAround 38 = .ok (.iaload, 1) := by decide +kernel
theorem dX0_coloursAround_39 : decode cX0_coloursAround 39 = .ok (.ishl, 1) := by decide +kernel
theorem dX0_coloursAround_40 : decode cX0_coloursAround 40 = .ok (.ior, 1) := by decide +kernel
theorem dX0_coloursAround_41 : decode cX0_coloursAround 41 = .ok (.istore_n 2, 1) := by decide +kernel
theorem dX0_coloursAround_42 : decode cX0_coloursAround 42 = .ok (.iinc 3 1, 3) := by decide +kernel
theorem dX0_coloursAround_45 : decode cX0_coloursAround 45 = .ok (.goto (-41), 3) := by decide +kernel
theorem dX0_coloursAround_48 : decode cX0_coloursAround 48 = .ok (.iload_n 2, 1) := by decide +kernel
theorem dX0_coloursAround_49 : decode cX0_coloursAround 49 = .ok (.ireturn, 1) := by decide +kernel
set_option maxRecDepth 20000 in
theorem ggX0_wishedColour_X0_isPoint : GoodIn wsX0_wishedColour wsX0_isPoint := goodIn_r _ [7, 8, 9, 10, 11, 12, 13, 14, 15, 16, 17, 18, 19] (by decide +kernel) (by decide +kernel)
set_option maxRecDepth 20000 in
theorem gX0_wishedColour_X0_isPoint : GoodIn wsX0_wishedColour (wsV RX0 40 RX0 yX0_isPoint wsX0_isPoint) := goodIn_app (goodIn_of _ (by decide +kernel)) ggX0_wishedColour_X0_isPoint
theorem dX0_wishedColour_0 : decode cX0_wishedColour 0 = .ok (.aload_n 0, 1) := by decide +kernel
theorem dX0_wishedColour_1 : decode cX0_wishedColour 1 = .ok (.getfield 20, 3) := by decide +kernel
theorem dX0_wishedColour_4 : decode cX0_wishedColour 4 = .ok (.iload_n 1, 1) := by decide +kernel
theorem dX0_wishedColour_5 : decode cX0_wishedColour 5 = .ok (.iaload, 1) := by decide +kernel
theorem dX0_wishedColour_6 : decode cX0_wishedColour 6 = .ok (.istore_n 2, 1) := by decide +kernel
theorem dX0_wishedColour_7 : decode cX0_wishedColour 7 = .ok (.aload_n 0, 1) := by decide +kernel
theorem dX0_wishedColour_8 : decode cX0_wishedColour 8 = .ok (.iload_n 2, 1) := by decide +kernel
theorem dX0_wishedColour_9 : decode cX0_wishedColour 9 = .ok (.invokevirtual 40, 3) := by decide +kernel
theorem dX0_wishedColour_12 : decode cX0_wishedColour 12 = .ok (.ifCond .eq 12, 3) := by decide +kernel
theorem dX0_wishedColour_15 : decode cX0_wishedColour 15 = .ok (.aload_n 0, 1) := by decide +kernel
theorem dX0_wishedColour_16 : decode cX0_wishedColour 16 = .ok (.getfield 33, 3) := by decide +kernel
theorem dX0_wishedColour_19 : decode cX0_wishedColour 19 = .ok (.iload_n 2, 1) := by decide +kernel
theorem dX0_wishedColour_20 : decode cX0_wishedColour 20 = .ok (.iaload, 1) := by decide +kernel
theorem dX0_wishedColour_21 : decode cX0_wishedColour 21 = .ok (.goto 4, 3) := by decide +kernel
theorem dX0_wishedColour_24 : decode cX0_wishedColour 24 = .ok (.iconst (-1), 1) := by decide +kernel
theorem dX0_wishedColour_25 : decode cX0_wishedColour 25 = .ok (.ireturn, 1) := by decide +kernel
theorem dX0_isFree_0 : decode cX0_isFree 0 = .ok (.iload_n 1, 1) := by decide +kernel
theorem dX0_isFree_1 : decode cX0_isFree 1 = .ok (.iconst 1, 1) := by decide +kernel
theorem dX0_isFree_2 : decode cX0_isFree 2 = .ok (.iload_n 0, 1) := by decide +kernel
theorem dX0_isFree_3 : decode cX0_isFree 3 = .ok (.ishl, 1) := by decide +kernel
theorem dX0_isFree_4 : decode cX0_isFree 4 = .ok (.iand, 1) := by decide +kernel
theorem dX0_isFree_5 : decode cX0_isFree 5 = .ok (.ifCond .ne 7, 3) := by decide +kernel
theorem dX0_isFree_8 : decode cX0_isFree 8 = .ok (.iconst 1, 1) := by decide +kernel
theorem dX0_isFree_9 : decode cX0_isFree 9 = .ok (.goto 4, 3) := by decide +kernel
theorem dX0_isFree_12 : decode cX0_isFree 12 = .ok (.iconst 0, 1) := by decide +kernel
theorem dX0_isFree_13 : decode cX0_isFree 13 = .ok (.ireturn, 1) := by decide +kernel
theorem dX0_countColourless_0 : decode cX0_countColourless 0 = .ok (.iconst 0, 1) := by decide +kernel
theorem dX0_countColourless_1 : decode cX0_countColourless 1 = .ok (.istore_n 1, 1) := by decide +kernel
theorem dX0_countColourless_2 : decode cX0_countColourless 2 = .ok (.iconst 0, 1) := by decide +kernel
theorem dX0_countColourless_3 : decode cX0_countColourless 3 = .ok (.istore_n 2, 1) := by decide +kernel
theorem dX0_countColourless_4 : decode cX0_countColourless 4 = .ok (.iload_n 2, 1) := by decide +kernel
theorem dX0_countColourless_5 : decode cX0_countColourless 5 = .ok (.aload_n 0, 1) := by decide +kernel
theorem dX0_countColourless_6 : decode cX0_countColourless 6 = .ok (.getfield 66, 3) := by decide +kernel
theorem dX0_countColourless_9 : decode cX0_countColourless 9 = .ok (.if_icmp .ge 22, 3) := by decide +kernel
theorem dX0_countColourless_12 : decode cX0_countColourless 12 = .ok (.aload_n 0, 1) := by decide +kernel
theorem dX0_countColourless_13 : decode cX0_countColourless 13 = .ok (.getfield 33, 3) := by decide +kernel
theorem dX0_countColourless_16 : decode cX0_countColourless 16 = .ok (.iload_n 2, 1) := by decide +kernel
theorem dX0_countColourless_17 : decode cX0_countColourless 17 = .ok (.iaload, 1) := by decide +kernel
theorem dX0_countColourless_18 : decode cX0_countColourless 18 = .ok (.iconst (-1), 1) := by decide +kernel
theorem dX0_countColourless_19 : decode cX0_countColourless 19 = .ok (.if_icmp .ne 6, 3) := by decide +kernel
theorem dX0_countColourless_22 : decode cX0_countColourless 22 = .ok (.iinc 1 1, 3) := by decide +kernel
theorem dX0_countColourless_25 : decode cX0_countColourless 25 = .ok (.iinc 2 1, 3) := by decide +kernel
theorem dX0_countColourless_28 : decode cX0_countColourless 28 = .ok (.goto (-24), 3) := by decide +kernel
theorem dX0_countColourless_31 : decode cX0_countColourless 31 = .ok (.iload_n 1, 1) := by decide +kernel
theorem dX0_countColourless_32 : decode cX0_countColourless 32 = .ok (.ireturn, 1) := by decide +kernel
set_option maxRecDepth 20000 in
theorem ggX1_init_X1_begin : GoodIn wsX1_init wsX1_begin := goodIn_r _ [17, 18, 19, 20, 8, 9, 6, 21, 22, 23, 24, 25, 26, 27, 28, 29] (by decide +kernel) (by decide +kernel)
set_option maxRecDepth 20000 in
theorem gX1_init_X1_begin : GoodIn wsX1_init (wsV RX1 30 RX1 yX1_begin wsX1_begin) := goodIn_app (goodIn_of _ (by decide +kernel)) ggX1_init_X1_begin
theorem dX1_init_0 : decode cX1_init 0 = .ok (.aload_n 0, 1) := by decide +kernel
theorem dX1_init_1 : decode cX1_init 1 = .ok (.invokespecial 1, 3) := by decide +kernel
theorem dX1_init_4 : decode cX1_init 4 = .ok (.aload_n 0, 1) := by decide +kernel
theorem dX1_init_5 : decode cX1_init 5 = .ok (.ldc 9, 2) := by decide +kernel
theorem dX1_init_7 : decode cX1_init 7 = .ok (.newarray .boolean, 2) := by decide +kernel
theorem dX1_init_9 : decode cX1_init 9 = .ok (.putfield 10, 3) := by decide +kernel
theorem dX1_init_12 : decode cX1_init 12 = .ok (.aload_n 0, 1) := by decide +kernel
theorem dX1_init_13 : decode cX1_init 13 = .ok (.sipush 200, 3) := by decide +kernel
theorem dX1_init_16 : decode cX1_init 16 = .ok (.newarray .int, 2) := by decide +kernel
theorem dX1_init_18 : decode cX1_init 18 = .ok (.putfield 14, 3) := by decide +kernel
theorem dX1_init_21 : decode cX1_init 21 = .ok (.aload_n 0, 1) := by decide +kernel
theorem dX1_init_22 : decode cX1_init 22 = .ok (.sipush 200, 3) := by decide +kernel
theorem dX1_init_25 : decode cX1_init 25 = .ok (.newarray .int, 2) := by decide +kernel
theorem dX1_init_27 : decode cX1_init 27 = .ok (.putfield 18, 3) := by decide +kernel
theorem dX1_init_30 : decode cX1_init 30 = .ok (.aload_n 0, 1) := by decide +kernel
theorem dX1_init_31 : decode cX1_init 31 = .ok (.sipush 200, 3) := by decide +kernel
theorem dX1_init_34 : decode cX1_init 34 = .ok (.newarray .int, 2) := by decide +kernel
theorem dX1_init_36 : decode cX1_init 36 = .ok (.putfield 21, 3) := by decide +kernel
theorem dX1_init_39 : decode cX1_init 39 = .ok (.aload_n 0, 1) := by decide +kernel
theorem dX1_init_40 : decode cX1_init 40 = .ok (.sipush 200, 3) := by decide +kernel
theorem dX1_init_43 : decode cX1_init 43 = .ok (.newarray .int, 2) := by decide +kernel
theorem dX1_init_45 : decode cX1_init 45 = .ok (.putfield 24, 3) := by decide +kernel
theorem dX1_init_48 : decode cX1_init 48 = .ok (.aload_n 0, 1) := by decide +kernel
theorem dX1_init_49 : decode cX1_init 49 = .ok (.sipush 200, 3) := by decide +kernel
theorem dX1_init_52 : decode cX1_init 52 = .ok (.newarray .boolean, 2) := by decide +kernel
theorem dX1_init_54 : decode cX1_init 54 = .ok (.putfield 27, 3) := by decide +kernel
theorem dX1_init_57 : decode cX1_init 57 = .ok (.aload_n 0, 1) := by decide +kernel
theorem dX1_init_58 : decode cX1_init 58 = .ok (.iconst 1, 1) := by decide +kernel
theorem dX1_init_59 : decode cX1_init 59 = .ok (.iconst 1, 1) := by decide +kernel
theorem dX1_init_60 : decode cX1_init 60 = .ok (.invokevirtual 30, 3) := by decide +kernel
theorem dX1_init_63 : decode cX1_init 63 = .ok (.istore_n 1, 1) := by decide +kernel
theorem dX1_init_64 : decode cX1_init 64 = .ok (.return_, 1) := by decide +kernel
theorem dX1_isPoint_0 : decode cX1_isPoint 0 = .ok (.iload_n 1, 1) := by decide +kernel
theorem dX1_isPoint_1 : decode cX1_isPoint 1 = .ok (.ifCond .lt 15, 3) := by decide +kernel
theorem dX1_isPoint_4 : decode cX1_isPoint 4 = .ok (.iload_n 1, 1) := by decide +kernel
theorem dX1_isPoint_5 : decode cX1_isPoint 5 = .ok (.aload_n 0, 1) := by decide +kernel
theorem dX1_isPoint_6 : decode cX1_isPoint 6 = .ok (.getfield 34, 3) := by decide +kernel
theorem dX1_isPoint_9 : decode cX1_isPoint 9 = .ok (.if_icmp .ge 7, 3) := by decide +kernel
theorem dX1_isPoint_12 : decode cX1_isPoint 12 = .ok (.iconst 1, 1) := by decide +kernel
theorem dX1_isPoint_13 : decode cX1_isPoint 13 = .ok (.goto 4, 3) := by decide +kernel
theorem dX1_isPoint_16 : decode cX1_isPoint 16 = .ok (.iconst 0, 1) := by decide +kernel
theorem dX1_isPoint_17 : decode cX1_isPoint 17 = .ok (.ireturn, 1) := by decide +kernel
theorem dX1_begin_0 : decode cX1_begin 0 = .ok (.iload_n 1, 1) := by decide +kernel
theorem dX1_begin_1 : decode cX1_begin 1 = .ok (.iconst 1, 1) := by decide +kernel
theorem dX1_begin_2 : decode cX1_begin 2 = .ok (.if_icmp .lt 21, 3) := by decide +kernel
theorem dX1_begin_5 : decode cX1_begin 5 = .ok (.iload_n 1, 1) := by decide +kernel
theorem dX1_begin_6 : decode cX1_begin 6 = .ok (.sipush 200, 3) := by decide +kernel
theorem dX1_begin_9 : decode cX1_begin 9 = .ok (.if_icmp .gt 14, 3) := by decide +kernel
theorem dX1_begin_12 : decode cX1_begin 12 = .ok (.iload_n 2, 1) := by decide +kernel
theorem dX1_begin_13 : decode cX1_begin 13 = .ok (.iconst 1, 1) := by decide +kernel
theorem dX1_begin_14 : decode cX1_begin 14 = .ok (.if_icmp .lt 9, 3) := by decide +kernel
theorem dX1_begin_17 : decode cX1_begin 17 = .ok (.iload_n 2, 1) := by decide +kernel
theorem dX1_begin_18 : decode cX1_begin 18 = .ok (.bipush 30, 2) := by decide +kernel
theorem dX1_begin_20 : decode cX1_begin 20 = .ok (.if_icmp .le 5, 3) := by decide +kernel
theorem dX1_begin_23 : decode cX1_begin 23 = .ok (.iconst 0, 1) := by decide +kernel
theorem dX1_begin_24 : decode cX1_begin 24 = .ok (.ireturn, 1) := by decide +kernel
theorem dX1_begin_25 : decode cX1_begin 25 = .ok (.aload_n 0, 1) := by decide +kernel
theorem dX1_begin_26 : decode cX1_begin 26 = .ok (.iload_n 1, 1) := by decide +kernel
theorem dX1_begin_27 : decode cX1_begin 27 = .ok (.putfield 34, 3) := by decide +kernel
theorem dX1_begin_30 : decode cX1_begin 30 = .ok (.aload_n 0, 1) := by decide +kernel
theorem dX1_begin_31 : decode cX1_begin 31 = .ok (.iload_n 2, 1) := by decide +kernel
theorem dX1_begin_32 : decode cX1_begin 32 = .ok (.putfield 38, 3) := by decide +kernel
theorem dX1_begin_35 : decode cX1_begin 35 = .ok (.aload_n 0, 1) := by decide +kernel
theorem dX1_begin_36 : decode cX1_begin 36 = .ok (.iconst 0, 1) := by decide +kernel
theorem dX1_begin_37 : decode cX1_begin 37 = .ok (.putfield 41, 3) := by decide +kernel
theorem dX1_begin_40 : decode cX1_begin 40 = .ok (.iconst 0, 1) := by decide +kernel
theorem dX1_begin_41 : decode cX1_begin 41 = .ok (.istore_n 3, 1) := by decide +kernel
theorem dX1_begin_42 : decode cX1_begin 42 = .ok (.iload_n 3, 1) := by decide +kernel
theorem dX1_begin_43 : decode cX1_begin 43 = .ok (.sipush 200, 3) := by decide +kernel
theorem dX1_begin_46 : decode cX1_begin 46 = .ok (.if_icmp .ge 54, 3) := by decide +kernel
theorem dX1_begin_49 : decode cX1_begin 49 = .ok (.aload_n 0, 1) := by decide +kernel
theorem dX1_begin_50 : decode cX1_begin 50 = .ok (.getfield 14, 3) := by decide +kernel
theorem dX1_begin_53 : decode cX1_begin 53 = .ok (.iload_n 3, 1) := by decide +kernel
theorem dX1_begin_54 : decode cX1_begin 54 = .ok (.iconst 0, 1) := by decide +kernel
theorem dX1_begin_55 : decode cX1_begin 55 = .ok (.iastore, 1) := by decide +kernel
theorem dX1_begin_56 : decode cX1_begin 56 = .ok (.aload_n 0, 1) := by decide +kernel
theorem dX1_begin_57 : decode cX1_begin 57 = .ok (.getfield 18, 3) := by decide +kernel
theorem dX1_begin_60 : decode cX1_begin 60 = .ok (.iload_n 3, 1) := by decide +kernel
theorem dX1_begin_61 : decode cX1_begin 61 = .ok (.iload_n 3, 1) := by decide +kernel
theorem dX1_begin_62 : decode cX1_begin 62 = .ok (.iastore, 1) := by decide +kernel
theorem dX1_begin_63 : decode cX1_begin 63 = .ok (.iconst 0, 1) := by decide +kernel
theorem dX1_begin_64 : decode cX1_begin 64 = .ok (.istore 4, 2) := by decide +kernel
theorem dX1_begin_66 : decode cX1_begin 66 = .ok (.iload 4, 2) := by decide +kernel
theorem dX1_begin_68 : decode cX1_begin 68 = .ok (.sipush 200, 3) := by decide +kernel
theorem dX1_begin_71 : decode cX1_begin 71 = .ok (.if_icmp .ge 23, 3) := by decide +kernel
theorem dX1_begin_74 : decode cX1_begin 74 = .ok (.aload_n 0, 1) := by decide +kernel
theorem dX1_begin_75 : decode cX1_begin 75 = .ok (.getfield 10, 3) := by decide +kernel
theorem dX1_begin_78 : decode cX1_begin 78 = .ok (.sipush 200, 3) := by decide +kernel
theorem dX1_begin_81 : decode cX1_begin 81 = .ok (.iload_n 3, 1) := by decide +kernel
theorem dX1_begin_82 : decode cX1_begin 82 = .ok (.imul, 1) := by decide +kernel
theorem dX1_begin_83 : decode cX1_begin 83 = .ok (.iload 4, 2) := by decide +kernel
theorem dX1_begin_85 : decode cX1_begin 85 = .ok (.iadd, 1) := by decide +kernel
theorem dX1_begin_86 : decode cX1_begin 86 = .ok (.iconst 0, 1) := by decide +kernel
theorem dX1_begin_87 : decode cX1_begin 87 = .ok (.bastore, 1) := by decide +kernel
theorem dX1_begin_88 : decode cX1_begin 88 = .ok (.iinc 4 1, 3) := by decide +kernel
theorem dX1_begin_91 : decode cX1_begin 91 = .ok (.goto (-25), 3) := by decide +kernel
theorem dX1_begin_94 : decode cX1_begin 94 = .ok (.iinc 3 1, 3) := by decide +kernel
theorem dX1_begin_97 : decode cX1_begin 97 = .ok (.goto (-55), 3) := by decide +kernel
theorem dX1_begin_100 : decode cX1_begin 100 = .ok (.iconst 1, 1) := by decide +kernel
theorem dX1_begin_101 : decode cX1_begin 101 = .ok (.ireturn, 1) := by decide +kernel
set_option maxRecDepth 20000 in
theorem ggX1_join_X1_isPoint : GoodIn wsX1_join wsX1_isPoint := goodIn_r _ [7, 8, 9, 10, 11, 12, 13, 14, 15, 16, 17] (by decide +kernel) (by decide +kernel)
set_option maxRecDepth 20000 in
theorem gX1_join_X1_isPoint : GoodIn wsX1_join (wsV RX1 45 RX1 yX1_isPoint wsX1_isPoint) := goodIn_app (goodIn_of _ (by decide +kernel)) ggX1_join_X1_isPoint
theorem dX1_join_0 : decode cX1_join 0 = .ok (.aload_n 0, 1) := by decide +kernel
theorem dX1_join_1 : decode cX1_join 1 = .ok (.iload_n 1, 1) := by decide +kernel
theorem dX1_join_2 : decode cX1_join 2 = .ok (.invokevirtual 45, 3) := by decide +kernel
theorem dX1_join_5 : decode cX1_join 5 = .ok (.ifCond .eq 31, 3) := by decide +kernel
theorem dX1_join_8 : decode cX1_join 8 = .ok (.aload_n 0, 1) := by decide +kernel
theorem dX1_join_9 : decode cX1_join 9 = .ok (.iload_n 2, 1) := by decide +kernel
theorem dX1_join_10 : decode cX1_join 10 = .ok (.invokevirtual 45, 3) := by decide +kernel
theorem dX1_join_13 : decode cX1_join 13 = .ok (.ifCond .eq 23, 3) := by decide +kernel
theorem dX1_join_16 : decode cX1_join 16 = .ok (.iload_n 1, 1) := by decide +kernel
theorem dX1_join_17 : decode cX1_join 17 = .ok (.iload_n 2, 1) := by decide +kernel
theorem dX1_join_18 : decode cX1_join 18 = .ok (.if_icmp .eq 18, 3) := by decide +kernel
theorem dX1_join_21 : decode cX1_join 21 = .ok (.aload_n 0, 1) := by decide +kernel
theorem dX1_join_22 : decode cX1_join 22 = .ok (.getfield 10, 3) := by decide +kernel
theorem dX1_join_25 : decode cX1_join 25 = .ok (.sipush 200, 3) := by decide +kernel
theorem dX1_join_28 : decode cX1_join 28 = .ok (.iload_n 1, 1) := by decide +kernel
theorem dX1_join_29 : decode cX1_join 29 = .ok (.imul, 1) := by decide +kernel
theorem dX1_join_30 : decode cX1_join 30 = .ok (.iload_n 2, 1) := by decide +kernel
theorem dX1_join_31 : decode cX1_join 31 = .ok (.iadd, 1) := by decide +kernel
theorem dX1_join_32 : decode cX1_join 32 = .ok (.baload, 1) := by decide +kernel
theorem dX1_join_33 : decode cX1_join 33 = .ok (.ifCond .eq 5, 3) := by decide +kernel
theorem dX1_join_36 : decode cX1_join 36 = .ok (.iconst 0, 1) := by decide +kernel
theorem dX1_join_37 : decode cX1_join 37 = .ok (.ireturn, 1) := by decide +kernel
theorem dX1_join_38 : decode cX1_join 38 = .ok (.aload_n 0, 1) := by decide +kernel
theorem dX1_join_39 : decode cX1_join 39 = .ok (.getfield 10, 3) := by decide +kernel
theorem dX1_join_42 : decode cX1_join 42 = .ok (.sipush 200, 3) := by decide +kernel
theorem dX1_join_45 : decode cX1_join 45 = .ok (.iload_n 1, 1) := by decide +kernel
theorem dX1_join_46 : decode cX1_join 46 = .ok (.imul, 1) := by decide +kernel
theorem dX1_join_47 : decode cX1_join 47 = .ok (.iload_n 2, 1) := by decide +kernel
theorem dX1_join_48 : decode cX1_join 48 = .ok (.iadd, 1) := by decide +kernel
theorem dX1_join_49 : decode cX1_join 49 = .ok (.iconst 1, 1) := by decide +kernel
theorem dX1_join_50 : decode cX1_join 50 = .ok (.bastore, 1) := by decide +kernel
theorem dX1_join_51 : decode cX1_join 51 = .ok (.aload_n 0, 1) := by decide +kernel
theorem dX1_join_52 : decode cX1_join 52 = .ok (.getfield 10, 3) := by decide +kernel
theorem dX1_join_55 : decode cX1_join 55 = .ok (.sipush 200, 3) := by decide +kernel
theorem dX1_join_58 : decode cX1_join 58 = .ok (.iload_n 2, 1) := by decide +kernel
theorem dX1_join_59 : decode cX1_join 59 = .ok (.imul, 1) := by decide +kernel
theorem dX1_join_60 : decode cX1_join 60 = .ok (.iload_n 1, 1) := by decide +kernel
theorem dX1_join_61 : decode cX1_join 61 = .ok (.iadd, 1) := by decide +kernel
theorem dX1_join_62 : decode cX1_join 62 = .ok (.iconst 1, 1) := by decide +kernel
theorem dX1_join_63 : decode cX1_join 63 = .ok (.bastore, 1) := by decide +kernel
theorem dX1_join_64 : decode cX1_join 64 = .ok (.aload_n 0, 1) := by decide +kernel
theorem dX1_join_65 : decode cX1_join 65 = .ok (.iconst 0, 1) := by decide +kernel
theorem dX1_join_66 : decode cX1_join 66 = .ok (.putfield 41, 3) := by decide +kernel
theorem dX1_join_69 : decode cX1_join 69 = .ok (.iconst 1, 1) := by decide +kernel
theorem dX1_join_70 : decode cX1_join 70 = .ok (.ireturn, 1) := by decide +kernel
set_option maxRecDepth 20000 in
theorem ggX1_cost_X1_isPoint : GoodIn wsX1_cost wsX1_isPoint := goodIn_r _ [8, 9, 10, 11, 12, 13, 14, 15, 16, 17, 18] (by decide +kernel) (by decide +kernel)
set_option maxRecDepth 20000 in
theorem gX1_cost_X1_isPoint : GoodIn wsX1_cost (wsV RX1 45 RX1 yX1_isPoint wsX1_isPoint) := goodIn_app (goodIn_of _ (by decide +kernel)) ggX1_cost_X1_isPoint
theorem dX1_cost_0 : decode cX1_cost 0 = .ok (.aload_n 0, 1) := by decide +kernel
theorem dX1_cost_1 : decode cX1_cost 1 = .ok (.iload_n 1, 1) := by decide +kernel
theorem dX1_cost_2 : decode cX1_cost 2 = .ok (.invokevirtual 45, 3) := by decide +kernel
theorem dX1_cost_5 : decode cX1_cost 5 = .ok (.ifCond .eq 13, 3) := by decide +kernel
theorem dX1_cost_8 : decode cX1_cost 8 = .ok (.iload_n 2, 1) := by decide +kernel
theorem dX1_cost_9 : decode cX1_cost 9 = .ok (.ifCond .lt 9, 3) := by decide +kernel
theorem dX1_cost_12 : decode cX1_cost 12 = .ok (.iload_n 2, 1) := by decide +kernel
theorem dX1_cost_13 : decode cX1_cost 13 = .ok (.ldc 49, 2) := by decide +kernel
theorem dX1_cost_15 : decode cX1_cost 15 = .ok (.if_icmp .le 5, 3) := by decide +kernel
theorem dX1_cost_18 : decode cX1_cost 18 = .ok (.iconst 0, 1) := by decide +kernel
theorem dX1_cost_19 : decode cX1_cost 19 = .ok (.ireturn, 1) := by decide +kernel
theorem dX1_cost_20 : decode cX1_cost 20 = .ok (.aload_n 0, 1) := by decide +kernel
theorem dX1_cost_21 : decode cX1_cost 21 = .ok (.getfield 14, 3) := by decide +kernel
theorem dX1_cost_24 : decode cX1_cost 24 = .ok (.iload_n 1, 1) := by decide +kernel
theorem dX1_cost_25 : decode cX1_cost 25 = .ok (.iload_n 2, 1) := by decide +kernel
theorem dX1_cost_26 : decode cX1_cost 26 = .ok (.iastore, 1) := by decide +kernel
theorem dX1_cost_27 : decode cX1_cost 27 = .ok (.aload_n 0, 1) := by decide +kernel
theorem dX1_cost_28 : decode cX1_cost 28 = .ok (.iconst 0, 1) := by decide +kernel
theorem dX1_cost_29 : decode cX1_cost 29 = .ok (.putfield 41, 3) := by decide +kernel
theorem dX1_cost_32 : decode cX1_cost 32 = .ok (.iconst 1, 1) := by decide +kernel
theorem dX1_cost_33 : decode cX1_cost 33 = .ok (.ireturn, 1) := by decide +kernel
set_option maxRecDepth 20000 in
theorem ggX1_wish_X1_isPoint : GoodIn wsX1_wish wsX1_isPoint := goodIn_r _ [7, 8, 9, 10, 11, 12, 13, 14, 15, 16, 17] (by decide +kernel) (by decide +kernel)
set_option maxRecDepth 20000 in
theorem gX1_wish_X1_isPoint : GoodIn wsX1_wish (wsV RX1 45 RX1 yX1_isPoint wsX1_isPoint) := goodIn_app (goodIn_of _ (by decide +kernel)) ggX1_wish_X1_isPoint
theorem dX1_wish_0 : decode cX1_wish 0 = .ok (.aload_n 0, 1) := by decide +kernel
theorem dX1_wish_1 : decode cX1_wish 1 = .ok (.iload_n 1, 1) := by decide +kernel
theorem dX1_wish_2 : decode cX1_wish 2 = .ok (.invokevirtual 45, 3) := by decide +kernel
theorem dX1_wish_5 : decode cX1_wish 5 = .ok (.ifCond .eq 11, 3) := by decide +kernel
theorem dX1_wish_8 : decode cX1_wish 8 = .ok (.aload_n 0, 1) := by decide +kernel
theorem dX1_wish_9 : decode cX1_wish 9 = .ok (.iload_n 2, 1) := by decide +kernel
theorem dX1_wish_10 : decode cX1_wish 10 = .ok (.invokevirtual 45, 3) := by decide +kernel
theorem dX1_wish_13 : decode cX1_wish 13 = .ok (.ifCond .ne 5, 3) := by decide +kernel
theorem dX1_wish_16 : decode cX1_wish 16 = .ok (.iconst 0, 1) := by decide +kernel
theorem dX1_wish_17 : decode cX1_wish 17 = .ok (.ireturn, 1) := by decide +kernel
theorem dX1_wish_18 : decode cX1_wish 18 = .ok (.aload_n 0, 1) := by decide +kernel
theorem dX1_wish_19 : decode cX1_wish 19 = .ok (.getfield 18, 3) := by decide +kernel
theorem dX1_wish_22 : decode cX1_wish 22 = .ok (.iload_n 1, 1) := by decide +kernel
theorem dX1_wish_23 : decode cX1_wish 23 = .ok (.iload_n 2, 1) := by decide +kernel
theorem dX1_wish_24 : decode cX1_wish 24 = .ok (.iastore, 1) := by decide +kernel
theorem dX1_wish_25 : decode cX1_wish 25 = .ok (.aload_n 0, 1) := by decide +kernel
theorem dX1_wish_26 : decode cX1_wish 26 = .ok (.iconst 0, 1) := by decide +kernel
theorem dX1_wish_27 : decode cX1_wish 27 = .ok (.putfield 41, 3) := by decide +kernel
theorem dX1_wish_30 : decode cX1_wish 30 = .ok (.iconst 1, 1) := by decide +kernel
theorem dX1_wish_31 : decode cX1_wish 31 = .ok (.ireturn, 1) := by decide +kernel
theorem dX1_left_0 : decode cX1_left 0 = .ok (.iconst 0, 1) := by decide +kernel
theorem dX1_left_1 : decode cX1_left 1 = .ok (.istore_n 2, 1) := by decide +kernel
theorem dX1_left_2 : decode cX1_left 2 = .ok (.iconst 0, 1) := by decide +kernel
theorem dX1_left_3 : decode cX1_left 3 = .ok (.istore_n 3, 1) := by decide +kernel
theorem dX1_left_4 : decode cX1_left 4 = .ok (.iload_n 3, 1) := by decide +kernel
theorem dX1_left_5 : decode cX1_left 5 = .ok (.aload_n 0, 1) := by decide +kernel
theorem dX1_left_6 : decode cX1_left 6 = .ok (.getfield 34, 3) := by decide +kernel
theorem dX1_left_9 : decode cX1_left 9 = .ok (.if_icmp .ge 36, 3) := by decide +kernel
theorem dX1_left_12 : decode cX1_left 12 = .ok (.aload_n 0, 1) := by decide +kernel
theorem dX1_left_13 : decode cX1_left 13 = .ok (.getfield 27, 3) := by decide +kernel
theorem dX1_left_16 : decode cX1_left 16 = .ok (.iload_n 3, 1) := by decide +kernel
theorem dX1_left_17 : decode cX1_left 17 = .ok (.baload, 1) := by decide +kernel
theorem dX1_left_18 : decode cX1_left 18 = .ok (.ifCond .eq 21, 3) := by decide +kernel
theorem dX1_left_21 : decode cX1_left 21 = .ok (.aload_n 0, 1) := by decide +kernel
theorem dX1_left_22 : decode cX1_left 22 = .ok (.getfield 10, 3) := by decide +kernel
theorem dX1_left_25 : decode cX1_left 25 = .ok (.sipush 200, 3) := by decide +kernel
theorem dX1_left_28 : decode cX1_left 28 = .ok (.iload_n 1, 1) := by decide +kernel
theorem dX1_left_29 : decode cX1_left 29 = .ok (.imul, 1) := by decide +kernel
theorem dX1_left_30 : decode cX1_left 30 = .ok (.iload_n 3, 1) := by decide +kernel
theorem dX1_left_31 : decode cX1_left 31 = .ok (.iadd, 1) := by decide +kernel
theorem dX1_left_32 : decode cX1_left 32 = .ok (.baload, 1) := by decide +kernel
theorem dX1_left_33 : decode cX1_left 33 = .ok (.ifCond .eq 6, 3) := by decide +kernel
theorem dX1_left_36 : decode cX1_left 36 = .ok (.iinc 2 1, 3) := by decide +kernel
theorem dX1_left_39 : decode cX1_left 39 = .ok (.iinc 3 1, 3) := by decide +kernel
theorem dX1_left_42 : decode cX1_left 42 = .ok (.goto (-38), 3) := by decide +kernel
theorem dX1_left_45 : decode cX1_left 45 = .ok (.iload_n 2, 1) := by decide +kernel
theorem dX1_left_46 : decode cX1_left 46 = .ok (.ireturn, 1) := by decide +kernel
set_option maxRecDepth 20000 in
theorem ggX1_next_X1_left : GoodIn wsX1_next wsX1_left := goodIn_r _ [9, 1, 2, 10, 11, 12, 13, 14, 15, 16, 17, 18, 19] (by decide +kernel) (by decide +kernel)
set_option maxRecDepth 20000 in
theorem gX1_next_X1_left : GoodIn wsX1_next (wsV RX1 50 RX1 yX1_left wsX1_left) := goodIn_app (goodIn_of _ (by decide +kernel)) ggX1_next_X1_left
theorem dX1_next_0 : decode cX1_next 0 = .ok (.iconst 0, 1) := by decide +kernel
theorem dX1_next_1 : decode cX1_next 1 = .ok (.istore_n 1, 1) := by decide +kernel
theorem dX1_next_2 : decode cX1_next 2 = .ok (.iload_n 1, 1) := by decide +kernel
theorem dX1_next_3 : decode cX1_next 3 = .ok (.aload_n 0, 1) := by decide +kernel
theorem dX1_next_4 : decode cX1_next 4 = .ok (.getfield 34, 3) := by decide +kernel
theorem dX1_next_7 : decode cX1_next 7 = .ok (.if_icmp .ge 32, 3) := by decide +kernel
theorem dX1_next_10 : decode cX1_next 10 = .ok (.aload_n 0, 1) := by decide +kernel
theorem dX1_next_11 : decode cX1_next 11 = .ok (.getfield 27, 3) := by decide +kernel
theorem dX1_next_14 : decode cX1_next 14 = .ok (.iload_n 1, 1) := by decide +kernel
theorem dX1_next_15 : decode cX1_next 15 = .ok (.baload, 1) := by decide +kernel
theorem dX1_next_16 : decode cX1_next 16 = .ok (.ifCond .eq 17, 3) := by decide +kernel
theorem dX1_next_19 : decode cX1_next 19 = .ok (.aload_n 0, 1) := by decide +kernel
theorem dX1_next_20 : decode cX1_next 20 = .ok (.iload_n 1, 1) := by decide +kernel
theorem dX1_next_21 : decode cX1_next 21 = .ok (.invokevirtual 50, 3) := by decide +kernel
theorem dX1_next_24 : decode cX1_next 24 = .ok (.aload_n 0, 1) := by decide +kernel
theorem dX1_next_25 : decode cX1_next 25 = .ok (.getfield 38, 3) := by decide +kernel
theorem dX1_next_28 : decode cX1_next 28 = .ok (.if_icmp .ge 5, 3) := by decide +kernel
theorem dX1_next_31 : decode cX1_next 31 = .ok (.iload_n 1, 1) := by decide +kernel
theorem dX1_next_32 : decode cX1_next 32 = .ok (.ireturn, 1) := by decide +kernel
theorem dX1_next_33 : decode cX1_next 33 = .ok (.iinc 1 1, 3) := by decide +kernel
theorem dX1_next_36 : decode cX1_next 36 = .ok (.goto (-34), 3) := by decide +kernel
theorem dX1_next_39 : decode cX1_next 39 = .ok (.iconst (-1), 1) := by decide +kernel
theorem dX1_next_40 : decode cX1_next 40 = .ok (.istore_n 1, 1) := by decide +kernel
theorem dX1_next_41 : decode cX1_next 41 = .ok (.iconst 0, 1) := by decide +kernel
theorem dX1_next_42 : decode cX1_next 42 = .ok (.istore_n 2, 1) := by decide +kernel
theorem dX1_next_43 : decode cX1_next 43 = .ok (.iload_n 2, 1) := by decide +kernel
theorem dX1_next_44 : decode cX1_next 44 = .ok (.aload_n 0, 1) := by decide +kernel
theorem dX1_next_45 : decode cX1_next 45 = .ok (.getfield 34, 3) := by decide +kernel
theorem dX1_next_48 : decode cX1_next 48 = .ok (.if_icmp .ge 54, 3) := by decide +kernel
theorem dX1_next_51 : decode cX1_next 51 = .ok (.aload_n 0, 1) := by decide +kernel
theorem dX1_next_52 : decode cX1_next 52 = .ok (.getfield 27, 3) := by decide +kernel
theorem dX1_next_55 : decode cX1_next 55 = .ok (.iload_n 2, 1) := by decide +kernel
theorem dX1_next_56 : decode cX1_next 56 = .ok (.baload, 1) := by decide +kernel
theorem dX1_next_57 : decode cX1_next 57 = .ok (.ifCond .ne 6, 3) := by decide +kernel
theorem dX1_next_60 : decode cX1_next 60 = .ok (.goto 36, 3) := by decide +kernel
theorem dX1_next_63 : decode cX1_next 63 = .ok (.iload_n 1, 1) := by decide +kernel
theorem dX1_next_64 : decode cX1_next 64 = .ok (.ifCond .lt 30, 3) := by decide +kernel
theorem dX1_next_67 : decode cX1_next 67 = .ok (.aload_n 0, 1) := by decide +kernel
theorem dX1_next_68 : decode cX1_next 68 = .ok (.getfield 14, 3) := by decide +kernel
theorem dX1_next_71 : decode cX1_next 71 = .ok (.iload_n 2, 1) := by decide +kernel
theorem dX1_next_72 : decode cX1_next 72 = .ok (.iaload, 1) := by decide +kernel
theorem dX1_next_73 : decode cX1_next 73 = .ok (.aload_n 0, 1) := by decide +kernel
theorem dX1_next_74 : decode cX1_next 74 = .ok (.iload_n 1, 1) := by decide +kernel
theorem dX1_next_75 : decode cX1_next 75 = .ok (.invokevirtual 50, 3) := by decide +kernel
theorem dX1_next_78 : decode cX1_next 78 = .ok (.imul, 1) := by decide +kernel
theorem dX1_next_79 : decode cX1_next 79 = .ok (.aload_n 0, 1) := by decide +kernel
theorem dX1_next_80 : decode cX1_next 80 = .ok (.getfield 14, 3) := by decide +kernel
theorem dX1_next_83 : decode cX1_next 83 = .ok (.iload_n 1, 1) := by decide +kernel
theorem dX1_next_84 : decode cX1_next 84 = .ok (.iaload, 1) := by decide +kernel
theorem dX1_next_85 : decode cX1_next 85 = .ok (.aload_n 0, 1) := by decide +kernel
theorem dX1_next_86 : decode cX1_next 86 = .ok (.iload_n 2, 1) := by decide +kernel
theorem dX1_next_87 : decode cX1_next 87 = .ok (.invokevirtual 50, 3) := by decide +kernel
theorem dX1_next_90 : decode cX1_next 90 = .ok (.imul, 1) := by decide +kernel
theorem dX1_next_91 : decode cX1_next 91 = .ok (.if_icmp .ge 5, 3) := by decide +kernel
theorem dX1_next_94 : decode cX1_next 94 = .ok (.iload_n 2, 1) := by decide +kernel
theorem dX1_next_95 : decode cX1_next 95 = .ok (.istore_n 1, 1) := by decide +kernel
theorem dX1_next_96 : decode cX1_next 96 = .ok (.iinc 2 1, 3) := by decide +kernel
theorem dX1_next_99 : decode cX1_next 99 = .ok (.goto (-56), 3) := by decide +kernel
theorem dX1_next_102 : decode cX1_next 102 = .ok (.iload_n 1, 1) := by decide +kernel
theorem dX1_next_103 : decode cX1_next 103 = .ok (.ireturn, 1) := by decide +kernel
theorem dX1_isFree_0 : decode cX1_isFree 0 = .ok (.iconst 0, 1) := by decide +kernel
theorem dX1_isFree_1 : decode cX1_isFree 1 = .ok (.istore_n 3, 1) := by decide +kernel
theorem dX1_isFree_2 : decode cX1_isFree 2 = .ok (.iload_n 3, 1) := by decide +kernel
theorem dX1_isFree_3 : decode cX1_isFree 3 = .ok (.aload_n 0, 1) := by decide +kernel
theorem dX1_isFree_4 : decode cX1_isFree 4 = .ok (.getfield 34, 3) := by decide +kernel
theorem dX1_isFree_7 : decode cX1_isFree 7 = .ok (.if_icmp .ge 36, 3) := by decide +kernel
theorem dX1_isFree_10 : decode cX1_isFree 10 = .ok (.aload_n 0, 1) := by decide +kernel
theorem dX1_isFree_11 : decode cX1_isFree 11 = .ok (.getfield 10, 3) := by decide +kernel
theorem dX1_isFree_14 : decode cX1_isFree 14 = .ok (.sipush 200, 3) := by decide +kernel
theorem dX1_isFree_17 : decode cX1_isFree 17 = .ok (.iload_n 1, 1) := by decide +kernel
theorem dX1_isFree_18 : decode cX1_isFree 18 = .ok (.imul, 1) := by decide +kernel
theorem dX1_isFree_19 : decode cX1_isFree 19 = .ok (.iload_n 3, 1) := by decide +kernel
theorem dX1_isFree_20 : decode cX1_isFree 20 = .ok (.iadd, 1) := by decide +kernel
theorem dX1_isFree_21 : decode cX1_isFree 21 = .ok (.baload, 1) := by decide +kernel
theorem dX1_isFree_22 : decode cX1_isFree 22 = .ok (.ifCond .eq 15, 3) := by decide +kernel
theorem dX1_isFree_25 : decode cX1_isFree 25 = .ok (.aload_n 0, 1) := by decide +kernel
theorem dX1_isFree_26 : decode cX1_isFree 26 = .ok (.getfield 21, 3) := by decide +kernel
theorem dX1_isFree_29 : decode cX1_isFree 29 = .ok (.iload_n 3, 1) := by decide +kernel
theorem dX1_isFree_30 : decode cX1_isFree 30 = .ok (.iaload, 1) := by decide +kernel
theorem dX1_isFree_31 : decode cX1_isFree 31 = .ok (.iload_n 2, 1) := by decide +kernel
theorem dX1_isFree_32 : decode cX1_isFree 32 = .ok (.if_icmp .ne 5, 3) := by decide +kernel
theorem dX1_isFree_35 : decode cX1_isFree 35 = .ok (.iconst 0, 1) := by decide +kernel
theorem dX1_isFree_36 : decode cX1_isFree 36 = .ok (.ireturn, 1) := by decide +kernel
theorem dX1_isFree_37 : decode cX1_isFree 37 = .ok (.iinc 3 1, 3) := by decide +kernel
theorem dX1_isFree_40 : decode cX1_isFree 40 = .ok (.goto (-38), 3) := by decide +kernel
theorem dX1_isFree_43 : decode cX1_isFree 43 = .ok (.iconst 1, 1) := by decide +kernel
theorem dX1_isFree_44 : decode cX1_isFree 44 = .ok (.ireturn, 1) := by decide +kernel
set_option maxRecDepth 20000 in
theorem ggX1_colourFor_X1_isFree : GoodIn wsX1_colourFor wsX1_isFree := goodIn_r _ [8, 9, 10, 2, 11, 12, 13, 14, 15, 16, 17, 18, 19] (by decide +kernel) (by decide +kernel)
set_option maxRecDepth 20000 in
theorem gX1_colourFor_X1_isFree : GoodIn wsX1_colourFor (wsV RX1 54 RX1 yX1_isFree wsX1_isFree) := goodIn_app (goodIn_of _ (by decide +kernel)) ggX1_colourFor_X1_isFree
theorem dX1_colourFor_0 : decode cX1_colourFor 0 = .ok (.aload_n 0, 1) := by decide +kernel
theorem dX1_colourFor_1 : decode cX1_colourFor 1 = .ok (.getfield 18, 3) := by decide +kernel
theorem dX1_colourFor_4 : decode cX1_colourFor 4 = .ok (.iload_n 1, 1) := by decide +kernel
theorem dX1_colourFor_5 : decode cX1_colourFor 5 = .ok (.iaload, 1) := by decide +kernel
theorem dX1_colourFor_6 : decode cX1_colourFor 6 = .ok (.istore_n 2, 1) := by decide +kernel
theorem dX1_colourFor_7 : decode cX1_colourFor 7 = .ok (.iload_n 2, 1) := by decide +kernel
theorem dX1_colourFor_8 : decode cX1_colourFor 8 = .ok (.iload_n 1, 1) := by decide +kernel
theorem dX1_colourFor_9 : decode cX1_colourFor 9 = .ok (.if_icmp .eq 33, 3) := by decide +kernel
theorem dX1_colourFor_12 : decode cX1_colourFor 12 = .ok (.aload_n 0, 1) := by decide +kernel
theorem dX1_colourFor_13 : decode cX1_colourFor 13 = .ok (.getfield 21, 3) := by decide +kernel
theorem dX1_colourFor_16 : decode cX1_colourFor 16 = .ok (.iload_n 2, 1) := by decide +kernel
theorem dX1_colourFor_17 : decode cX1_colourFor 17 = .ok (.iaload, 1) := by decide +kernel
theorem dX1_colourFor_18 : decode cX1_colourFor 18 = .ok (.ifCond .lt 24, 3) := by decide +kernel
theorem dX1_colourFor_21 : decode cX1_colourFor 21 = .ok (.aload_n 0, 1) := by decide +kernel
theorem dX1_colourFor_22 : decode cX1_colourFor 22 = .ok (.iload_n 1, 1) := by decide +kernel
theorem dX1_colourFor_23 : decode cX1_colourFor 23 = .ok (.aload_n 0, 1) := by decide +kernel
theorem dX1_colourFor_24 : decode cX1_colourFor 24 = .ok (.getfield 21, 3) := by decide +kernel
theorem dX1_colourFor_27 : decode cX1_colourFor 27 = .ok (.iload_n 2, 1) := by decide +kernel
theorem dX1_colourFor_28 : decode cX1_colourFor 28 = .ok (.iaload, 1) := by decide +kernel
theorem dX1_colourFor_29 : decode cX1_colourFor 29 = .ok (.invokevirtual 54, 3) := by decide +kernel
theorem dX1_colourFor_32 : decode cX1_colourFor 32 = .ok (.ifCond .eq 10, 3) := by decide +kernel
theorem dX1_colourFor_35 : decode cX1_colourFor 35 = .ok (.aload_n 0, 1) := by decide +kernel
theorem dX1_colourFor_36 : decode cX1_colourFor 36 = .ok (.getfield 21, 3) := by decide +kernel
theorem dX1_colourFor_39 : decode cX1_colourFor 39 = .ok (.iload_n 2, 1) := by decide +kernel
theorem dX1_colourFor_40 : decode cX1_colourFor 40 = .ok (.iaload, 1) := by decide +kernel
theorem dX1_colourFor_41 : decode cX1_colourFor 41 = .ok (.ireturn, 1) := by decide +kernel
theorem dX1_colourFor_42 : decode cX1_colourFor 42 = .ok (.iconst 0, 1) := by decide +kernel
theorem dX1_colourFor_43 : decode cX1_colourFor 43 = .ok (.istore_n 3, 1) := by decide +kernel
theorem dX1_colourFor_44 : decode cX1_colourFor 44 = .ok (.iload_n 3, 1) := by decide +kernel
theorem dX1_colourFor_45 : decode cX1_colourFor 45 = .ok (.aload_n 0, 1) := by decide +kernel
theorem dX1_colourFor_46 : decode cX1_colourFor 46 = .ok (.getfield 38, 3) := by decide +kernel
theorem dX1_colourFor_49 : decode cX1_colourFor 49 = .ok (.if_icmp .ge 20, 3) := by decide +kernel
theorem dX1_colourFor_52 : decode cX1_colourFor 52 = .ok (.aload_n 0, 1) := by decide +kernel
theorem dX1_colourFor_53 : decode cX1_colourFor 53 = .ok (.iload_n 1, 1) := by decide +kernel
theorem dX1_colourFor_54 : decode cX1_colourFor 54 = .ok (.iload_n 3, 1) := by decide +kernel
theorem dX1_colourFor_55 : decode cX1_colourFor 55 = .ok (.invokevirtual 54, 3) := by decide +kernel
theorem dX1_colourFor_58 : decode cX1_colourFor 58 = .ok (.ifCond .eq 5, 3) := by decide +kernel
theorem dX1_colourFor_61 : decode cX1_colourFor 61 = .ok (.iload_n 3, 1) := by decide +kernel
theorem dX1_colourFor_62 : decode cX1_colourFor 62 = .ok (.ireturn, 1) := by decide +kernel
theorem dX1_colourFor_63 : decode cX1_colourFor 63 = .ok (.iinc 3 1, 3) := by decide +kernel
theorem dX1_colourFor_66 : decode cX1_colourFor 66 = .ok (.goto (-22), 3) := by decide +kernel
theorem dX1_colourFor_69 : decode cX1_colourFor 69 = .ok (.iconst (-1), 1) := by decide +kernel
theorem dX1_colourFor_70 : decode cX1_colourFor 70 = .ok (.ireturn, 1) := by decide +kernel
set_option maxRecDepth 20000 in
theorem ggX1_give_X1_next : GoodIn wsX1_give wsX1_next := goodIn_r _ [10, 1, 2, 11, 12, 13, 14, 15, 9, 16, 17, 27, 28, 29, 30, 31, 32, 33, 34, 35] (by decide +kernel) (by decide +kernel)
set_option maxRecDepth 20000 in
theorem gX1_give_X1_next : GoodIn wsX1_give (wsV RX1 57 RX1 yX1_next wsX1_next) := goodIn_app (goodIn_of _ (by decide +kernel)) ggX1_give_X1_next
set_option maxRecDepth 20000 in
theorem ggX1_give_X1_colourFor : GoodIn wsX1_give wsX1_colourFor := goodIn_r _ [21, 22, 3, 11, 23, 24, 25, 9, 26, 1, 17, 27, 28, 29, 30, 31, 32, 33, 34, 35] (by decide +kernel) (by decide +kernel)
set_option maxRecDepth 20000 in
theorem gX1_give_X1_colourFor : GoodIn wsX1_give (wsV RX1 61 RX1 yX1_colourFor wsX1_colourFor) := goodIn_app (goodIn_of _ (by decide +kernel)) ggX1_give_X1_colourFor
theorem dX1_give_0 : decode cX1_give 0 = .ok (.iconst 0, 1) := by decide +kernel
theorem dX1_give_1 : decode cX1_give 1 = .ok (.istore_n 1, 1) := by decide +kernel
theorem dX1_give_2 : decode cX1_give 2 = .ok (.iload_n 1, 1) := by decide +kernel
theorem dX1_give_3 : decode cX1_give 3 = .ok (.aload_n 0, 1) := by decide +kernel
theorem dX1_give_4 : decode cX1_give 4 = .ok (.getfield 34, 3) := by decide +kernel
theorem dX1_give_7 : decode cX1_give 7 = .ok (.if_icmp .ge 23, 3) := by decide +kernel
theorem dX1_give_10 : decode cX1_give 10 = .ok (.aload_n 0, 1) := by decide +kernel
theorem dX1_give_11 : decode cX1_give 11 = .ok (.getfield 27, 3) := by decide +kernel
theorem dX1_give_14 : decode cX1_give 14 = .ok (.iload_n 1, 1) := by decide +kernel
theorem dX1_give_15 : decode cX1_give 15 = .ok (.iconst 1, 1) := by decide +kernel
theorem dX1_give_16 : decode cX1_give 16 = .ok (.bastore, 1) := by decide +kernel
theorem dX1_give_17 : decode cX1_give 17 = .ok (.aload_n 0, 1) := by decide +kernel
theorem dX1_give_18 : decode cX1_give 18 = .ok (.getfield 21, 3) := by decide +kernel
theorem dX1_give_21 : decode cX1_give 21 = .ok (.iload_n 1, 1) := by decide +kernel
theorem dX1_give_22 : decode cX1_give 22 = .ok (.iconst (-1), 1) := by decide +kernel
theorem dX1_give_23 : decode cX1_give 23 = .ok (.iastore, 1) := by decide +kernel
theorem dX1_give_24 : decode cX1_give 24 = .ok (.iinc 1 1, 3) := by decide +kernel
theorem dX1_give_27 : decode cX1_give 27 = .ok (.goto (-25), 3) := by decide +kernel
theorem dX1_give_30 : decode cX1_give 30 = .ok (.iconst 0, 1) := by decide +kernel
theorem dX1_give_31 : decode cX1_give 31 = .ok (.istore_n 1, 1) := by decide +kernel
theorem dX1_give_32 : decode cX1_give 32 = .ok (.iload_n 1, 1) := by decide +kernel
theorem dX1_give_33 : decode cX1_give 33 = .ok (.aload_n 0, 1) := by decide +kernel
theorem dX1_give_34 : decode cX1_give 34 = .ok (.getfield 34, 3) := by decide +kernel
theorem dX1_give_37 : decode cX1_give 37 = .ok (.if_icmp .ge 31, 3) := by decide +kernel
theorem dX1_give_40 : decode cX1_give 40 = .ok (.aload_n 0, 1) := by decide +kernel
theorem dX1_give_41 : decode cX1_give 41 = .ok (.getfield 24, 3) := by decide +kernel
theorem dX1_give_44 : decode cX1_give 44 = .ok (.iload_n 1, 1) := by decide +kernel
theorem dX1_give_45 : decode cX1_give 45 = .ok (.aload_n 0, 1) := by decide +kernel
theorem dX1_give_46 : decode cX1_give 46 = .ok (.invokevirtual 57, 3) := by decide +kernel
theorem dX1_give_49 : decode cX1_give 49 = .ok (.iastore, 1) := by decide +kernel
theorem dX1_give_50 : decode cX1_give 50 = .ok (.aload_n 0, 1) := by decide +kernel
theorem dX1_give_51 : decode cX1_give 51 = .ok (.getfield 27, 3) := by decide +kernel
theorem dX1_give_54 : decode cX1_give 54 = .ok (.aload_n 0, 1) := by decide +kernel
theorem dX1_give_55 : decode cX1_give 55 = .ok (.getfield 24, 3) := by decide +kernel
theorem dX1_give_58 : decode cX1_give 58 = .ok (.iload_n 1, 1) := by decide +kernel
theorem dX1_give_59 : decode cX1_give 59 = .ok (.iaload, 1) := by decide +kernel
theorem dX1_give_60 : decode cX1_give 60 = .ok (.iconst 0, 1) := by decide +kernel
theorem dX1_give_61 : decode cX1_give 61 = .ok (.bastore, 1) := by decide +kernel
theorem dX1_give_62 : decode cX1_give 62 = .ok (.iinc 1 1, 3) := by decide +kernel
theorem dX1_give_65 : decode cX1_give 65 = .ok (.goto (-33), 3) := by decide +kernel
theorem dX1_give_68 : decode cX1_give 68 = .ok (.iconst 0, 1) := by decide +kernel
theorem dX1_give_69 : decode cX1_give 69 = .ok (.istore_n 1, 1) := by decide +kernel
theorem dX1_give_70 : decode cX1_give 70 = .ok (.aload_n 0, 1) := by decide +kernel
theorem dX1_give_71 : decode cX1_give 71 = .ok (.getfield 34, 3) := by decide +kernel
theorem dX1_give_74 : decode cX1_give 74 = .ok (.iconst 1, 1) := by decide +kernel
theorem dX1_give_75 : decode cX1_give 75 = .ok (.isub, 1) := by decide +kernel
theorem dX1_give_76 : decode cX1_give 76 = .ok (.istore_n 2, 1) := by decide +kernel
theorem dX1_give_77 : decode cX1_give 77 = .ok (.iload_n 2, 1) := by decide +kernel
theorem dX1_give_78 : decode cX1_give 78 = .ok (.ifCond .lt 47, 3) := by decide +kernel
theorem dX1_give_81 : decode cX1_give 81 = .ok (.aload_n 0, 1) := by decide +kernel
theorem dX1_give_82 : decode cX1_give 82 = .ok (.getfield 21, 3) := by decide +kernel
theorem dX1_give_85 : decode cX1_give 85 = .ok (.aload_n 0, 1) := by decide +kernel
theorem dX1_give_86 : decode cX1_give 86 = .ok (.getfield 24, 3) := by decide +kernel
theorem dX1_give_89 : decode cX1_give 89 = .ok (.iload_n 2, 1) := by decide +kernel
theorem dX1_give_90 : decode cX1_give 90 = .ok (.iaload, 1) := by decide +kernel
theorem dX1_give_91 : decode cX1_give 91 = .ok (.aload_n 0, 1) := by decide +kernel
theorem dX1_give_92 : decode cX1_give 92 = .ok (.aload_n 0, 1) := by decide +kernel
theorem dX1_give_93 : decode cX1_give 93 = .ok (.getfield 24, 3) := by decide +kernel
theorem dX1_give_96 : decode cX1_give 96 = .ok (.iload_n 2, 1) := by decide +kernel
theorem dX1_give_97 : decode cX1_give 97 = .ok (.iaload, 1) := by decide +kernel
theorem dX1_give_98 : decode cX1_give 98 = .ok (.invokevirtual 61, 3) := by decide +kernel
theorem dX1_give_101 : decode cX1_give 101 = .ok (.iastore, 1) := by decide +kernel
theorem dX1_give_102 : decode cX1_give 102 = .ok (.aload_n 0, 1) := by decide +kernel
theorem dX1_give_103 : decode cX1_give 103 = .ok (.getfield 21, 3) := by decide +kernel
theorem dX1_give_106 : decode cX1_give 106 = .ok (.aload_n 0, 1) := by decide +kernel
theorem dX1_give_107 : decode cX1_give 107 = .ok (.getfield 24, 3) := by decide +kernel
theorem dX1_give_110 : decode cX1_give 110 = .ok (.iload_n 2, 1) := by decide +kernel
theorem dX1_give_111 : decode cX1_give 111 = .ok (.iaload, 1) := by decide +kernel
theorem dX1_give_112 : decode cX1_give 112 = .ok (.iaload, 1) := by decide +kernel
theorem dX1_give_113 : decode cX1_give 113 = .ok (.ifCond .ge 6, 3) := by decide +kernel
theorem dX1_give_116 : decode cX1_give 116 = .ok (.iinc 1 1, 3) := by decide +kernel
theorem dX1_give_119 : decode cX1_give 119 = .ok (.iinc 2 (-1), 3) := by decide +kernel
theorem dX1_give_122 : decode cX1_give 122 = .ok (.goto (-45), 3) := by decide +kernel
theorem dX1_give_125 : decode cX1_give 125 = .ok (.aload_n 0, 1) := by decide +kernel
theorem dX1_give_126 : decode cX1_give 126 = .ok (.iconst 1, 1) := by decide +kernel
theorem dX1_give_127 : decode cX1_give 127 = .ok (.putfield 41, 3) := by decide +kernel
theorem dX1_give_130 : decode cX1_give 130 = .ok (.iload_n 1, 1) := by decide +kernel
theorem dX1_give_131 : decode cX1_give 131 = .ok (.ireturn, 1) := by decide +kernel
set_option maxRecDepth 20000 in
theorem ggX1_colour_X1_isPoint : GoodIn wsX1_colour wsX1_isPoint := goodIn_r _ [7, 8, 9, 10, 11, 12, 13, 14, 15, 16, 17] (by decide +kernel) (by decide +kernel)
set_option maxRecDepth 20000 in
theorem gX1_colour_X1_isPoint : GoodIn wsX1_colour (wsV RX1 45 RX1 yX1_isPoint wsX1_isPoint) := goodIn_app (goodIn_of _ (by decide +kernel)) ggX1_colour_X1_isPoint
theorem dX1_colour_0 : decode cX1_colour 0 = .ok (.aload_n 0, 1) := by decide +kernel
theorem dX1_colour_1 : decode cX1_colour 1 = .ok (.getfield 41, 3) := by decide +kernel
theorem dX1_colour_4 : decode cX1_colour 4 = .ok (.ifCond .eq 20, 3) := by decide +kernel
theorem dX1_colour_7 : decode cX1_colour 7 = .ok (.aload_n 0, 1) := by decide +kernel
theorem dX1_colour_8 : decode cX1_colour 8 = .ok (.iload_n 1, 1) := by decide +kernel
theorem dX1_colour_9 : decode cX1_colour 9 = .ok (.invokevirtual 45, 3) := by decide +kernel
theorem dX1_colour_12 : decode cX1_colour 12 = .ok (.ifCond .eq 12, 3) := by decide +kernel
theorem dX1_colour_15 : decode cX1_colour 15 = .ok (.aload_n 0, 1) := by decide +kernel
theorem dX1_colour_16 : decode cX1_colour 16 = .ok (.getfield 21, 3) := by decide +kernel
theorem dX1_colour_19 : decode cX1_colour 19 = .ok (.iload_n 1, 1) := by decide +kernel
theorem dX1_colour_20 : decode cX1_colour 20 = .ok (.iaload, 1) := by decide +kernel
theorem dX1_colour_21 : decode cX1_colour 21 = .ok (.goto 4, 3) := by decide +kernel
theorem dX1_colour_24 : decode cX1_colour 24 = .ok (.iconst (-1), 1) := by decide +kernel
theorem dX1_colour_25 : decode cX1_colour 25 = .ok (.ireturn, 1) := by decide +kernel
set_option maxRecDepth 20000 in
theorem ggX1_taken_X1_isPoint : GoodIn wsX1_taken wsX1_isPoint := goodIn_r _ [7, 8, 9, 10, 11, 12, 13, 14, 15, 16, 17] (by decide +kernel) (by decide +kernel)
set_option maxRecDepth 20000 in
theorem gX1_taken_X1_isPoint : GoodIn wsX1_taken (wsV RX1 45 RX1 yX1_isPoint wsX1_isPoint) := goodIn_app (goodIn_of _ (by decide +kernel)) ggX1_taken_X1_isPoint
theorem dX1_taken_0 : decode cX1_taken 0 = .ok (.aload_n 0, 1) := by decide +kernel
theorem dX1_taken_1 : decode cX1_taken 1 = .ok (.getfield 41, 3) := by decide +kernel
theorem dX1_taken_4 : decode cX1_taken 4 = .ok (.ifCond .eq 20, 3) := by decide +kernel
theorem dX1_taken_7 : decode cX1_taken 7 = .ok (.aload_n 0, 1) := by decide +kernel
theorem dX1_taken_8 : decode cX1_taken 8 = .ok (.iload_n 1, 1) := by decide +kernel
theorem dX1_taken_9 : decode cX1_taken 9 = .ok (.invokevirtual 45, 3) := by decide +kernel
theorem dX1_taken_12 : decode cX1_taken 12 = .ok (.ifCond .eq 12, 3) := by decide +kernel
theorem dX1_taken_15 : decode cX1_taken 15 = .ok (.aload_n 0, 1) := by decide +kernel
theorem dX1_taken_16 : decode cX1_taken 16 = .ok (.getfield 24, 3) := by decide +kernel
theorem dX1_taken_19 : decode cX1_taken 19 = .ok (.iload_n 1, 1) := by decide +kernel
theorem dX1_taken_20 : decode cX1_taken 20 = .ok (.iaload, 1) := by decide +kernel
theorem dX1_taken_21 : decode cX1_taken 21 = .ok (.goto 4, 3) := by decide +kernel
theorem dX1_taken_24 : decode cX1_taken 24 = .ok (.iconst (-1), 1) := by decide +kernel
theorem dX1_taken_25 : decode cX1_taken 25 = .ok (.ireturn, 1) := by decide +kernel
set_option maxRecDepth 20000 in
theorem ggX1_joined_X1_isPoint : GoodIn wsX1_joined wsX1_isPoint := goodIn_r _ [6, 7, 8, 9, 10, 11, 12, 13, 14, 15, 16] (by decide +kernel) (by decide +kernel)
set_option maxRecDepth 20000 in
theorem gX1_joined_X1_isPoint : GoodIn wsX1_joined (wsV RX1 45 RX1 yX1_isPoint wsX1_isPoint) := goodIn_app (goodIn_of _ (by decide +kernel)) ggX1_joined_X1_isPoint
theorem dX1_joined_0 : decode cX1_joined 0 = .ok (.aload_n 0, 1) := by decide +kernel
theorem dX1_joined_1 : decode cX1_joined 1 = .ok (.iload_n 1, 1) := by decide +kernel
theorem dX1_joined_2 : decode cX1_joined 2 = .ok (.invokevirtual 45, 3) := by decide +kernel
theorem dX1_joined_5 : decode cX1_joined 5 = .ok (.ifCond .eq 30, 3) := by decide +kernel
theorem dX1_joined_8 : decode cX1_joined 8 = .ok (.aload_n 0, 1) := by decide +kernel
theorem dX1_joined_9 : decode cX1_joined 9 = .ok (.iload_n 2, 1) := by decide +kernel
theorem dX1_joined_10 : decode cX1_joined 10 = .ok (.invokevirtual 45, 3) := by decide +kernel
theorem dX1_joined_13 : decode cX1_joined 13 = .ok (.ifCond .eq 22, 3) := by decide +kernel
theorem dX1_joined_16 : decode cX1_joined 16 = .ok (.aload_n 0, 1) := by decide +kernel
theorem dX1_joined_17 : decode cX1_joined 17 = .ok (.getfield 10, 3) := by decide +kernel
theorem dX1_joined_20 : decode cX1_joined 20 = .ok (.sipush 200, 3) := by decide +kernel
theorem dX1_joined_23 : decode cX1_joined 23 = .ok (.iload_n 1, 1) := by decide +kernel
theorem dX1_joined_24 : decode cX1_joined 24 = .ok (.imul, 1) := by decide +kernel
theorem dX1_joined_25 : decode cX1_joined 25 = .ok (.iload_n 2, 1) := by decide +kernel
theorem dX1_joined_26 : decode cX1_joined 26 = .ok (.iadd, 1) := by decide +kernel
theorem dX1_joined_27 : decode cX1_joined 27 = .ok (.baload, 1) := by decide +kernel
theorem dX1_joined_28 : decode cX1_joined 28 = .ok (.ifCond .eq 7, 3) := by decide +kernel
theorem dX1_joined_31 : decode cX1_joined 31 = .ok (.iconst 1, 1) := by decide +kernel
theorem dX1_joined_32 : decode cX1_joined 32 = .ok (.goto 4, 3) := by decide +kernel
theorem dX1_joined_35 : decode cX1_joined 35 = .ok (.iconst 0, 1) := by decide +kernel
theorem dX1_joined_36 : decode cX1_joined 36 = .ok (.ireturn, 1) := by decide +kernel
set_option maxRecDepth 20000 in
theorem ggX1_degree_X1_isPoint : GoodIn wsX1_degree wsX1_isPoint := goodIn_r _ [7, 1, 8, 9, 10, 11, 12, 13, 14, 15, 16] (by decide +kernel) (by decide +kernel)
set_option maxRecDepth 20000 in
theorem gX1_degree_X1_isPoint : GoodIn wsX1_degree (wsV RX1 45 RX1 yX1_isPoint wsX1_isPoint) := goodIn_app (goodIn_of _ (by decide +kernel)) ggX1_degree_X1_isPoint
theorem dX1_degree_0 : decode cX1_degree 0 = .ok (.aload_n 0, 1) := by decide +kernel
theorem dX1_degree_1 : decode cX1_degree 1 = .ok (.iload_n 1, 1) := by decide +kernel
theorem dX1_degree_2 : decode cX1_degree 2 = .ok (.invokevirtual 45, 3) := by decide +kernel
theorem dX1_degree_5 : decode cX1_degree 5 = .ok (.ifCond .ne 5, 3) := by decide +kernel
theorem dX1_degree_8 : decode cX1_degree 8 = .ok (.iconst (-1), 1) := by decide +kernel
theorem dX1_degree_9 : decode cX1_degree 9 = .ok (.ireturn, 1) := by decide +kernel
theorem dX1_degree_10 : decode cX1_degree 10 = .ok (.iconst 0, 1) := by decide +kernel
theorem dX1_degree_11 : decode cX1_degree 11 = .ok (.istore_n 2, 1) := by decide +kernel
theorem dX1_degree_12 : decode cX1_degree 12 = .ok (.iconst 0, 1) := by decide +kernel
theorem dX1_degree_13 : decode cX1_degree 13 = .ok (.istore_n 3, 1) := by decide +kernel
theorem dX1_degree_14 : decode cX1_degree 14 = .ok (.iload_n 3, 1) := by decide +kernel
theorem dX1_degree_15 : decode cX1_degree 15 = .ok (.aload_n 0, 1) := by decide +kernel
theorem dX1_degree_16 : decode cX1_degree 16 = .ok (.getfield 34, 3) := by decide +kernel
theorem dX1_degree_19 : decode cX1_degree 19 = .ok (.if_icmp .ge 27, 3) := by decide +kernel
theorem dX1_degree_22 : decode cX1_degree 22 = .ok (.aload_n 0, 1) := by decide +kernel
theorem dX1_degree_23 : decode cX1_degree 23 = .ok (.getfield 10, 3) := by decide +kernel
theorem dX1_degree_26 : decode cX1_degree 26 = .ok (.sipush 200, 3) := by decide +kernel
theorem dX1_degree_29 : decode cX1_degree 29 = .ok (.iload_n 1, 1) := by decide +kernel
theorem dX1_degree_30 : decode cX1_degree 30 = .ok (.imul, 1) := by decide +kernel
theorem dX1_degree_31 : decode cX1_degree 31 = .ok (.iload_n 3, 1) := by decide +kernel
theorem dX1_degree_32 : decode cX1_degree 32 = .ok (.iadd, 1) := by decide +kernel
theorem dX1_degree_33 : decode cX1_degree 33 = .ok (.baload, 1) := by decide +kernel
theorem dX1_degree_34 : decode cX1_degree 34 = .ok (.ifCond .eq 6, 3) := by decide +kernel
theorem dX1_degree_37 : decode cX1_degree 37 = .ok (.iinc 2 1, 3) := by decide +kernel
theorem dX1_degree_40 : decode cX1_degree 40 = .ok (.iinc 3 1, 3) := by decide +kernel
theorem dX1_degree_43 : decode cX1_degree 43 = .ok (.goto (-29), 3) := by decide +kernel
theorem dX1_degree_46 : decode cX1_degree 46 = .ok (.iload_n 2, 1) := by decide +kernel
theorem dX1_degree_47 : decode cX1_degree 47 = .ok (.ireturn, 1) := by decide +kernel
theorem dX1_strays_0 : decode cX1_strays 0 = .ok (.iconst 0, 1) := by decide +kernel
theorem dX1_strays_1 : decode cX1_strays 1 = .ok (.istore_n 1, 1) := by decide +kernel
theorem dX1_strays_2 : decode cX1_strays 2 = .ok (.iconst 0, 1) := by decide +kernel
theorem dX1_strays_3 : decode cX1_strays 3 = .ok (.istore_n 2, 1) := by decide +kernel
theorem dX1_strays_4 : decode cX1_strays 4 = .ok (.iload_n 2, 1) := by decide +kernel
theorem dX1_strays_5 : decode cX1_strays 5 = .ok (.aload_n 0, 1) := by decide +kernel
theorem dX1_strays_6 : decode cX1_strays 6 = .ok (.getfield 34, 3) := by decide +kernel
theorem dX1_strays_9 : decode cX1_strays 9 = .ok (.if_icmp .ge 76, 3) := by decide +kernel
theorem dX1_strays_12 : decode cX1_strays 12 = .ok (.aload_n 0, 1) := by decide +kernel
theorem dX1_strays_13 : decode cX1_strays 13 = .ok (.getfield 41, 3) := by decide +kernel
theorem dX1_strays_16 : decode cX1_strays 16 = .ok (.ifCond .eq 69, 3) := by decide +kernel
theorem dX1_strays_19 : decode cX1_strays 19 = .ok (.iload_n 2, 1) := by decide +kernel
theorem dX1_strays_20 : decode cX1_strays 20 = .ok (.iconst 1, 1) := by decide +kernel
theorem dX1_strays_21 : decode cX1_strays 21 = .ok (.iadd, 1) := by decide +kernel
theorem dX1_strays_22 : decode cX1_strays 22 = .ok (.istore_n 3, 1) := by decide +kernel
theorem dX1_strays_23 : decode cX1_strays 23 = .ok (.iload_n 3, 1) := by decide +kernel
theorem dX1_strays_24 : decode cX1_strays 24 = .ok (.aload_n 0, 1) := by decide +kernel
theorem dX1_strays_25 : decode cX1_strays 25 = .ok (.getfield 34, 3) := by decide +kernel
theorem dX1_strays_28 : decode cX1_strays 28 = .ok (.if_icmp .ge 51, 3) := by decide +kernel
theorem dX1_strays_31 : decode cX1_strays 31 = .ok (.aload_n 0, 1) := by decide +kernel
theorem dX1_strays_32 : decode cX1_strays 32 = .ok (.getfield 10, 3) := by decide +kernel
theorem dX1_strays_35 : decode cX1_strays 35 = .ok (.sipush 200, 3) := by decide +kernel
theorem dX1_strays_38 : decode cX1_strays 38 = .ok (.iload_n 2, 1) := by decide +kernel
theorem dX1_strays_39 : decode cX1_strays 39 = .ok (.imul, 1) := by decide +kernel
theorem dX1_strays_40 : decode cX1_strays 40 = .ok (.iload_n 3, 1) := by decide +kernel
theorem dX1_strays_41 : decode cX1_strays 41 = .ok (.iadd, 1) := by decide +kernel
theorem dX1_strays_42 : decode cX1_strays 42 = .ok (.baload, 1) := by decide +kernel
theorem dX1_strays_43 : decode cX1_strays 43 = .ok (.ifCond .eq 30, 3) := by decide +kernel
theorem dX1_strays_46 : decode cX1_strays 46 = .ok (.aload_n 0, 1) := by decide +kernel
theorem dX1_strays_47 : decode cX1_strays 47 = .ok (.getfield 21, 3) := by decide +kernel
theorem dX1_strays_50 : decode cX1_strays 50 = .ok (.iload_n 2, 1) := by decide +kernel
theorem dX1_strays_51 : decode cX1_strays 51 = .ok (.iaload, 1) := by decide +kernel
theorem dX1_strays_52 : decode cX1_strays 52 = .ok (.ifCond .lt 21, 3) := by decide +kernel
theorem dX1_strays_55 : decode cX1_strays 55 = .ok (.aload_n 0, 1) := by decide +kernel
theorem dX1_strays_56 : decode cX1_strays 56 = .ok (.getfield 21, 3) := by decide +kernel
theorem dX1_strays_59 : decode cX1_strays 59 = .ok (.iload_n 2, 1) := by decide +kernel
theorem dX1_strays_60 : decode cX1_strays 60 = .ok (.iaload, 1) := by decide +kernel
theorem dX1_strays_61 : decode cX1_strays 61 = .ok (.aload_n 0, 1) := by decide +kernel
theorem dX1_strays_62 : decode cX1_strays 62 = .ok (.getfield 21, 3) := by decide +kernel
theorem dX1_strays_65 : decode cX1_strays 65 = .ok (.iload_n 3, 1) := by decide +kernel
theorem dX1_strays_66 : decode cX1_strays 66 = .ok (.iaload, 1) := by decide +kernel
theorem dX1_strays_67 : decode cX1_strays 67 = .ok (.if_icmp .ne 6, 3) := by decide +kernel
theorem dX1_strays_70 : decode cX1_strays 70 = .ok (.iinc 1 1, 3) := by decide +kernel
theorem dX1_strays_73 : decode cX1_strays 73 = .ok (.iinc 3 1, 3) := by decide +kernel
theorem dX1_strays_76 : decode cX1_strays 76 = .ok (.goto (-53), 3) := by decide +kernel
theorem dX1_strays_79 : decode cX1_strays 79 = .ok (.iinc 2 1, 3) := by decide +kernel
theorem dX1_strays_82 : decode cX1_strays 82 = .ok (.goto (-78), 3) := by decide +kernel
theorem dX1_strays_85 : decode cX1_strays 85 = .ok (.iload_n 1, 1) := by decide +kernel
theorem dX1_strays_86 : decode cX1_strays 86 = .ok (.ireturn, 1) := by decide +kernel
theorem dJ7_fill_d0a16_0 : decode cJ7_fill_d0a16 0 = .ok (.iconst 0, 1) := by decide +kernel
theorem dJ7_fill_d0a16_1 : decode cJ7_fill_d0a16 1 = .ok (.istore_n 3, 1) := by decide +kernel
theorem dJ7_fill_d0a16_2 : decode cJ7_fill_d0a16 2 = .ok (.aload_n 0, 1) := by decide +kernel
theorem dJ7_fill_d0a16_3 : decode cJ7_fill_d0a16 3 = .ok (.arraylength, 1) := by decide +kernel
theorem dJ7_fill_d0a16_4 : decode cJ7_fill_d0a16 4 = .ok (.istore 4, 2) := by decide +kernel
theorem dJ7_fill_d0a16_6 : decode cJ7_fill_d0a16 6 = .ok (.iload_n 3, 1) := by decide +kernel
theorem dJ7_fill_d0a16_7 : decode cJ7_fill_d0a16 7 = .ok (.iload 4, 2) := by decide +kernel
theorem dJ7_fill_d0a16_9 : decode cJ7_fill_d0a16 9 = .ok (.if_icmp .ge 13, 3) := by decide +kernel
theorem dJ7_fill_d0a16_12 : decode cJ7_fill_d0a16 12 = .ok (.aload_n 0, 1) := by decide +kernel
theorem dJ7_fill_d0a16_13 : decode cJ7_fill_d0a16 13 = .ok (.iload_n 3, 1) := by decide +kernel
theorem dJ7_fill_d0a16_14 : decode cJ7_fill_d0a16 14 = .ok (.lload_n 1, 1) := by decide +kernel
theorem dJ7_fill_d0a16_15 : decode cJ7_fill_d0a16 15 = .ok (.lastore, 1) := by decide +kernel
theorem dJ7_fill_d0a16_16 : decode cJ7_fill_d0a16 16 = .ok (.iinc 3 1, 3) := by decide +kernel
theorem dJ7_fill_d0a16_19 : decode cJ7_fill_d0a16 19 = .ok (.goto (-13), 3) := by decide +kernel
theorem dJ7_fill_d0a16_22 : decode cJ7_fill_d0a16 22 = .ok (.return_, 1) := by decide +kernel
theorem dJ7_fill_53178_0 : decode cJ7_fill_53178 0 = .ok (.iconst 0, 1) := by decide +kernel
theorem dJ7_fill_53178_1 : decode cJ7_fill_53178 1 = .ok (.istore_n 2, 1) := by decide +kernel
theorem dJ7_fill_53178_2 : decode cJ7_fill_53178 2 = .ok (.aload_n 0, 1) := by decide +kernel
theorem dJ7_fill_53178_3 : decode cJ7_fill_53178 3 = .ok (.arraylength, 1) := by decide +kernel
theorem dJ7_fill_53178_4 : decode cJ7_fill_53178 4 = .ok (.istore_n 3, 1) := by decide +kernel
theorem dJ7_fill_53178_5 : decode cJ7_fill_53178 5 = .ok (.iload_n 2, 1) := by decide +kernel
theorem dJ7_fill_53178_6 : decode cJ7_fill_53178 6 = .ok (.iload_n 3, 1) := by decide +kernel
theorem dJ7_fill_53178_7 : decode cJ7_fill_53178 7 = .ok (.if_icmp .ge 13, 3) := by decide +kernel
theorem dJ7_fill_53178_10 : decode cJ7_fill_53178 10 = .ok (.aload_n 0, 1) := by decide +kernel
theorem dJ7_fill_53178_11 : decode cJ7_fill_53178 11 = .ok (.iload_n 2, 1) := by decide +kernel
theorem dJ7_fill_53178_12 : decode cJ7_fill_53178 12 = .ok (.iload_n 1, 1) := by decide +kernel
theorem dJ7_fill_53178_13 : decode cJ7_fill_53178 13 = .ok (.iastore, 1) := by decide +kernel
theorem dJ7_fill_53178_14 : decode cJ7_fill_53178 14 = .ok (.iinc 2 1, 3) := by decide +kernel
theorem dJ7_fill_53178_17 : decode cJ7_fill_53178 17 = .ok (.goto (-12), 3) := by decide +kernel
theorem dJ7_fill_53178_20 : decode cJ7_fill_53178 20 = .ok (.return_, 1) := by decide +kernel
set_option maxRecDepth 20000 in
theorem ggL_law_X0_init : GoodIn wsL_law wsX0_init := goodIn_r _ [8, 9, 10, 11, 12, 13, 14, 15, 16, 17, 18, 19, 20, 21, 22, 23, 24, 25, 2, 26, 27, 28, 29, 30, 31, 32, 33, 34, 35, 36, 211, 212, 213, 214, 215, 216, 217, 218, 219, 220, 221] (by decide +kernel) (by decide +kernel)
set_option maxRecDepth 20000 in
theorem gL_law_X0_init : GoodIn wsL_law (wsX0_init) := ggL_law_X0_init
set_option maxRecDepth 20000 in
theorem ggL_law_X1_init : GoodIn wsL_law wsX1_init := goodIn_r _ [39, 40, 10, 11, 41, 19, 42, 14, 43, 44, 45, 46, 47, 48, 49, 50, 5, 51, 52, 53, 54, 222, 223, 224, 225, 226, 227, 228, 229, 230] (by decide +kernel) (by decide +kernel)
set_option maxRecDepth 20000 in
theorem gL_law_X1_init : GoodIn wsL_law (wsX1_init) := ggL_law_X1_init
set_option maxRecDepth 20000 in
theorem ggL_law_X0_begin : GoodIn wsL_law wsX0_begin := goodIn_r _ [58, 23, 24, 25, 2, 26, 27, 28, 29, 13, 15, 16, 17, 30, 31, 32, 33, 34, 35, 36, 211, 212, 213, 214, 215, 216, 217, 218, 219, 220, 221] (by decide +kernel) (by decide +kernel)
set_option maxRecDepth 20000 in
theorem gL_law_X0_begin : GoodIn wsL_law (wsV RL 13 RX0 yX0_begin wsX0_begin) := goodIn_app (goodIn_of _ (by decide +kernel)) ggL_law_X0_begin
set_option maxRecDepth 20000 in
theorem ggL_law_X1_begin : GoodIn wsL_law wsX1_begin := goodIn_r _ [51, 52, 53, 54, 43, 44, 42, 222, 223, 224, 225, 226, 227, 228, 229, 230] (by decide +kernel) (by decide +kernel)
set_option maxRecDepth 20000 in
theorem gL_law_X1_begin : GoodIn wsL_law (wsV RL 17 RX1 yX1_begin wsX1_begin) := goodIn_app (goodIn_of _ (by decide +kernel)) ggL_law_X1_begin
set_option maxRecDepth 20000 in
theorem ggL_law_X0_join : GoodIn wsL_law wsX0_join := goodIn_r _ [63, 29, 64, 65, 66, 2, 67, 27, 68, 69, 70, 71, 13, 72, 73, 74, 75, 76, 77, 78, 79, 80, 81, 15, 211, 212, 213, 214, 215, 216, 217, 218, 219, 220, 221] (by decide +kernel) (by decide +kernel)
set_option maxRecDepth 20000 in
theorem gL_law_X0_join : GoodIn wsL_law (wsV RL 18 RX0 yX0_join wsX0_join) := goodIn_app (goodIn_of _ (by decide +kernel)) ggL_law_X0_join
set_option maxRecDepth 20000 in
theorem ggL_law_X1_join : GoodIn wsL_law wsX1_join := goodIn_r _ [85, 42, 54, 86, 87, 88, 5, 89, 52, 222, 223, 224, 225, 226, 227, 228, 229, 230] (by decide +kernel) (by decide +kernel)
set_option maxRecDepth 20000 in
theorem gL_law_X1_join : GoodIn wsL_law (wsV RL 21 RX1 yX1_join wsX1_join) := goodIn_app (goodIn_of _ (by decide +kernel)) ggL_law_X1_join
set_option maxRecDepth 20000 in
theorem ggL_law_X0_cost : GoodIn wsL_law wsX0_cost := goodIn_r _ [93, 94, 16, 29, 64, 65, 66, 2, 67, 27, 211, 212, 213, 214, 215, 216, 217, 218, 219, 220, 221] (by decide +kernel) (by decide +kernel)
set_option maxRecDepth 20000 in
theorem gL_law_X0_cost : GoodIn wsL_law (wsV RL 22 RX0 yX0_cost wsX0_cost) := goodIn_app (goodIn_of _ (by decide +kernel)) ggL_law_X0_cost
set_option maxRecDepth 20000 in
theorem ggL_law_X1_cost : GoodIn wsL_law wsX1_cost := goodIn_r _ [98, 99, 43, 54, 86, 87, 88, 5, 89, 52, 222, 223, 224, 225, 226, 227, 228, 229, 230] (by decide +kernel) (by decide +kernel)
set_option maxRecDepth 20000 in
theorem gL_law_X1_cost : GoodIn wsL_law (wsV RL 25 RX1 yX1_cost wsX1_cost) := goodIn_app (goodIn_of _ (by decide +kernel)) ggL_law_X1_cost
set_option maxRecDepth 20000 in
theorem ggL_law_X0_wish : GoodIn wsL_law wsX0_wish := goodIn_r _ [103, 17, 29, 64, 65, 66, 2, 67, 27, 211, 212, 213, 214, 215, 216, 217, 218, 219, 220, 221] (by decide +kernel) (by decide +kernel)
set_option maxRecDepth 20000 in
theorem gL_law_X0_wish : GoodIn wsL_law (wsV RL 26 RX0 yX0_wish wsX0_wish) := goodIn_app (goodIn_of _ (by decide +kernel)) ggL_law_X0_wish
set_option maxRecDepth 20000 in
theorem ggL_law_X1_wish : GoodIn wsL_law wsX1_wish := goodIn_r _ [107, 44, 54, 86, 87, 88, 5, 89, 52, 222, 223, 224, 225, 226, 227, 228, 229, 230] (by decide +kernel) (by decide +kernel)
set_option maxRecDepth 20000 in
theorem gL_law_X1_wish : GoodIn wsL_law (wsV RL 29 RX1 yX1_wish wsX1_wish) := goodIn_app (goodIn_of _ (by decide +kernel)) ggL_law_X1_wish
set_option maxRecDepth 20000 in
theorem ggL_law_X0_give : GoodIn wsL_law wsX0_give := goodIn_r _ [111, 29, 112, 113, 114, 2, 115, 27, 20, 21, 15, 18, 116, 117, 118, 119, 28, 120, 121, 122, 123, 16, 124, 125, 126, 127, 64, 65, 66, 67, 68, 69, 70, 71, 13, 72, 73, 74, 75, 76, 77, 128, 129, 130, 131, 22, 34, 35, 32, 36, 132, 133, 134, 135, 136, 137, 138, 139, 140, 141, 142, 143, 17, 144, 145, 146, 147, 148, 149, 150, 211, 212, 213, 214, 215, 216, 217, 218, 219, 220, 221] (by decide +kernel) (by decide +kernel)
set_option maxRecDepth 20000 in
theorem gL_law_X0_give : GoodIn wsL_law (wsV RL 30 RX0 yX0_give wsX0_give) := goodIn_app (goodIn_of _ (by decide +kernel)) ggL_law_X0_give
set_option maxRecDepth 20000 in
theorem ggL_law_X1_give : GoodIn wsL_law wsX1_give := goodIn_r _ [154, 52, 47, 45, 46, 54, 155, 156, 157, 5, 158, 53, 43, 159, 160, 161, 162, 42, 163, 164, 165, 166, 44, 167, 168, 169, 170, 222, 223, 224, 225, 226, 227, 228, 229, 230] (by decide +kernel) (by decide +kernel)
set_option maxRecDepth 20000 in
theorem gL_law_X1_give : GoodIn wsL_law (wsV RL 34 RX1 yX1_give wsX1_give) := goodIn_app (goodIn_of _ (by decide +kernel)) ggL_law_X1_give
set_option maxRecDepth 20000 in
theorem ggL_law_X0_colour : GoodIn wsL_law wsX0_colour := goodIn_r _ [174, 29, 22, 64, 65, 66, 2, 67, 27, 211, 212, 213, 214, 215, 216, 217, 218, 219, 220, 221] (by decide +kernel) (by decide +kernel)
set_option maxRecDepth 20000 in
theorem gL_law_X0_colour : GoodIn wsL_law (wsV RL 35 RX0 yX0_colour wsX0_colour) := goodIn_app (goodIn_of _ (by decide +kernel)) ggL_law_X0_colour
set_option maxRecDepth 20000 in
theorem ggL_law_X1_colour : GoodIn wsL_law wsX1_colour := goodIn_r _ [178, 54, 45, 86, 87, 88, 5, 89, 52, 222, 223, 224, 225, 226, 227, 228, 229, 230] (by decide +kernel) (by decide +kernel)
set_option maxRecDepth 20000 in
theorem gL_law_X1_colour : GoodIn wsL_law (wsV RL 39 RX1 yX1_colour wsX1_colour) := goodIn_app (goodIn_of _ (by decide +kernel)) ggL_law_X1_colour
set_option maxRecDepth 20000 in
theorem ggL_law_X0_taken : GoodIn wsL_law wsX0_taken := goodIn_r _ [182, 29, 18, 64, 65, 66, 2, 67, 27, 211, 212, 213, 214, 215, 216, 217, 218, 219, 220, 221] (by decide +kernel) (by decide +kernel)
set_option maxRecDepth 20000 in
theorem gL_law_X0_taken : GoodIn wsL_law (wsV RL 40 RX0 yX0_taken wsX0_taken) := goodIn_app (goodIn_of _ (by decide +kernel)) ggL_law_X0_taken
set_option maxRecDepth 20000 in
theorem ggL_law_X1_taken : GoodIn wsL_law wsX1_taken := goodIn_r _ [186, 54, 46, 86, 87, 88, 5, 89, 52, 222, 223, 224, 225, 226, 227, 228, 229, 230] (by decide +kernel) (by decide +kernel)
set_option maxRecDepth 20000 in
theorem gL_law_X1_taken : GoodIn wsL_law (wsV RL 43 RX1 yX1_taken wsX1_taken) := goodIn_app (goodIn_of _ (by decide +kernel)) ggL_law_X1_taken
set_option maxRecDepth 20000 in
theorem ggL_law_X0_joined : GoodIn wsL_law wsX0_joined := goodIn_r _ [190, 64, 65, 66, 2, 67, 27, 68, 69, 70, 71, 13, 72, 73, 74, 75, 76, 77, 211, 212, 213, 214, 215, 216, 217, 218, 219, 220, 221] (by decide +kernel) (by decide +kernel)
set_option maxRecDepth 20000 in
theorem gL_law_X0_joined : GoodIn wsL_law (wsV RL 44 RX0 yX0_joined wsX0_joined) := goodIn_app (goodIn_of _ (by decide +kernel)) ggL_law_X0_joined
set_option maxRecDepth 20000 in
theorem ggL_law_X1_joined : GoodIn wsL_law wsX1_joined := goodIn_r _ [194, 42, 86, 87, 88, 5, 89, 52, 222, 223, 224, 225, 226, 227, 228, 229, 230] (by decide +kernel) (by decide +kernel)
set_option maxRecDepth 20000 in
theorem gL_law_X1_joined : GoodIn wsL_law (wsV RL 47 RX1 yX1_joined wsX1_joined) := goodIn_app (goodIn_of _ (by decide +kernel)) ggL_law_X1_joined
set_option maxRecDepth 20000 in
theorem ggL_law_X0_degree : GoodIn wsL_law wsX0_degree := goodIn_r _ [198, 15, 64, 65, 66, 2, 67, 27, 211, 212, 213, 214, 215, 216, 217, 218, 219, 220, 221] (by decide +kernel) (by decide +kernel)
set_option maxRecDepth 20000 in
theorem gL_law_X0_degree : GoodIn wsL_law (wsV RL 48 RX0 yX0_degree wsX0_degree) := goodIn_app (goodIn_of _ (by decide +kernel)) ggL_law_X0_degree
set_option maxRecDepth 20000 in
theorem ggL_law_X1_degree : GoodIn wsL_law wsX1_degree := goodIn_r _ [202, 52, 42, 86, 87, 88, 5, 89, 222, 223, 224, 225, 226, 227, 228, 229, 230] (by decide +kernel) (by decide +kernel)
set_option maxRecDepth 20000 in
theorem gL_law_X1_degree : GoodIn wsL_law (wsV RL 51 RX1 yX1_degree wsX1_degree) := goodIn_app (goodIn_of _ (by decide +kernel)) ggL_law_X1_degree
set_option maxRecDepth 20000 in
theorem ggL_law_X0_strays : GoodIn wsL_law wsX0_strays := goodIn_r _ [206, 29, 27, 22, 68, 69, 70, 2, 71, 13, 72, 73, 74, 75, 76, 77, 211, 212, 213, 214, 215, 216, 217, 218, 219, 220, 221] (by decide +kernel) (by decide +kernel)
set_option maxRecDepth 20000 in
theorem gL_law_X0_strays : GoodIn wsL_law (wsV RL 52 RX0 yX0_strays wsX0_strays) := goodIn_app (goodIn_of _ (by decide +kernel)) ggL_law_X0_strays
set_option maxRecDepth 20000 in
theorem ggL_law_X1_strays : GoodIn wsL_law wsX1_strays := goodIn_r _ [210, 52, 54, 42, 45, 222, 223, 224, 225, 226, 227, 228, 229, 230] (by decide +kernel) (by decide +kernel)
set_option maxRecDepth 20000 in
theorem gL_law_X1_strays : GoodIn wsL_law (wsV RL 55 RX1 yX1_strays wsX1_strays) := goodIn_app (goodIn_of _ (by decide +kernel)) ggL_law_X1_strays
theorem dL_law_0 : decode cL_law 0 = .ok (.new 7, 3) := by decide +kernel
theorem dL_law_3 : decode cL_law 3 = .ok (.dup, 1) := by decide +kernel
theorem dL_law_4 : decode cL_law 4 = .ok (.invokespecial 9, 3) := by decide +kernel
theorem dL_law_7 : decode cL_law 7 = .ok (.astore_n 1, 1) := by decide +kernel
theorem dL_law_8 : decode cL_law 8 = .ok (.new 10, 3) := by decide +kernel
theorem dL_law_11 : decode cL_law 11 = .ok (.dup, 1) := by decide +kernel
theorem dL_law_12 : decode cL_law 12 = .ok (.invokespecial 12, 3) := by decide +kernel
theorem dL_law_15 : decode cL_law 15 = .ok (.astore_n 2, 1) := by decide +kernel
theorem dL_law_16 : decode cL_law 16 = .ok (.iconst 0, 1) := by decide +kernel
theorem dL_law_17 : decode cL_law 17 = .ok (.istore_n 3, 1) := by decide +kernel
theorem dL_law_18 : decode cL_law 18 = .ok (.iload_n 3, 1) := by decide +kernel
theorem dL_law_19 : decode cL_law 19 = .ok (.aload_n 0, 1) := by decide +kernel
theorem dL_law_20 : decode cL_law 20 = .ok (.arraylength, 1) := by decide +kernel
theorem dL_law_21 : decode cL_law 21 = .ok (.iconst 3, 1) := by decide +kernel
theorem dL_law_22 : decode cL_law 22 = .ok (.isub, 1) := by decide +kernel
theorem dL_law_23 : decode cL_law 23 = .ok (.if_icmp .gt 331, 3) := by decide +kernel
theorem dL_law_26 : decode cL_law 26 = .ok (.aload_n 0, 1) := by decide +kernel
theorem dL_law_27 : decode cL_law 27 = .ok (.iload_n 3, 1) := by decide +kernel
theorem dL_law_28 : decode cL_law 28 = .ok (.iaload, 1) := by decide +kernel
theorem dL_law_29 : decode cL_law 29 = .ok (.bipush 15, 2) := by decide +kernel
theorem dL_law_31 : decode cL_law 31 = .ok (.iand, 1) := by decide +kernel
theorem dL_law_32 : decode cL_law 32 = .ok (.tableswitch 316 0 9 #[56, 89, 122, 155, 188, 201, 224, 247, 280, 303], 56) := by decide +kernel
theorem dL_law_88 : decode cL_law 88 = .ok (.aload_n 1, 1) := by decide +kernel
theorem dL_law_89 : decode cL_law 89 = .ok (.aload_n 0, 1) := by decide +kernel
theorem dL_law_90 : decode cL_law 90 = .ok (.iload_n 3, 1) := by decide +kernel
theorem dL_law_91 : decode cL_law 91 = .ok (.iconst 1, 1) := by decide +kernel
theorem dL_law_92 : decode cL_law 92 = .ok (.iadd, 1) := by decide +kernel
theorem dL_law_93 : decode cL_law 93 = .ok (.iaload, 1) := by decide +kernel
theorem dL_law_94 : decode cL_law 94 = .ok (.aload_n 0, 1) := by decide +kernel
theorem dL_law_95 : decode cL_law 95 = .ok (.iload_n 3, 1) := by decide +kernel
theorem dL_law_96 : decode cL_law 96 = .ok (.iconst 2, 1) := by decide +kernel
theorem dL_law_97 : decode cL_law 97 = .ok (.iadd, 1) := by decide +kernel
theorem dL_law_98 : decode cL_law 98 = .ok (.iaload, 1) := by decide +kernel
theorem dL_law_99 : decode cL_law 99 = .ok (.invokevirtual 13, 3) := by decide +kernel
theorem dL_law_102 : decode cL_law 102 = .ok (.aload_n 2, 1) := by decide +kernel
theorem dL_law_103 : decode cL_law 103 = .ok (.aload_n 0, 1) := by decide +kernel
theorem dL_law_104 : decode cL_law 104 = .ok (.iload_n 3, 1) := by decide +kernel
theorem dL_law_105 : decode cL_law 105 = .ok (.iconst 1, 1) := by decide +kernel
theorem dL_law_106 : decode cL_law 106 = .ok (.iadd, 1) := by decide +kernel
theorem dL_law_107 : decode cL_law 107 = .ok (.iaload, 1) := by decide +kernel
theorem dL_law_108 : decode cL_law 108 = .ok (.aload_n 0, 1) := by decide +kernel
theorem dL_law_109 : decode cL_law 109 = .ok (.iload_n 3, 1) := by decide +kernel
theorem dL_law_110 : decode cL_law 110 = .ok (.iconst 2, 1) := by decide +kernel
theorem dL_law_111 : decode cL_law 111 = .ok (.iadd, 1) := by decide +kernel
theorem dL_law_112 : decode cL_law 112 = .ok (.iaload, 1) := by decide +kernel
theorem dL_law_113 : decode cL_law 113 = .ok (.invokevirtual 17, 3) := by decide +kernel
theorem dL_law_116 : decode cL_law 116 = .ok (.if_icmp .eq 232, 3) := by decide +kernel
theorem dL_law_119 : decode cL_law 119 = .ok (.iconst 0, 1) := by decide +kernel
theorem dL_law_120 : decode cL_law 120 = .ok (.ireturn, 1) := by decide +kernel
theorem dL_law_121 : decode cL_law 121 = .ok (.aload_n 1, 1) := by decide +kernel
theorem dL_law_122 : decode cL_law 122 = .ok (.aload_n 0, 1) := by decide +kernel
theorem dL_law_123 : decode cL_law 123 = .ok (.iload_n 3, 1) := by decide +kernel
theorem dL_law_124 : decode cL_law 124 = .ok (.iconst 1, 1) := by decide +kernel
theorem dL_law_125 : decode cL_law 125 = .ok (.iadd, 1) := by decide +kernel
theorem dL_law_126 : decode cL_law 126 = .ok (.iaload, 1) := by decide +kernel
theorem dL_law_127 : decode cL_law 127 = .ok (.aload_n 0, 1) := by decide +kernel
theorem dL_law_128 : decode cL_law 128 = .ok (.iload_n 3, 1) := by decide +kernel
theorem dL_law_129 : decode cL_law 129 = .ok (.iconst 2, 1) := by decide +kernel
theorem dL_law_130 : decode cL_law 130 = .ok (.iadd, 1) := by decide +kernel
theorem dL_law_131 : decode cL_law 131 = .ok (.iaload, 1) := by decide +kernel
theorem dL_law_132 : decode cL_law 132 = .ok (.invokevirtual 18, 3) := by decide +kernel
theorem dL_law_135 : decode cL_law 135 = .ok (.aload_n 2, 1) := by decide +kernel
theorem dL_law_136 : decode cL_law 136 = .ok (.aload_n 0, 1) := by decide +kernel
theorem dL_law_137 : decode cL_law 137 = .ok (.iload_n 3, 1) := by decide +kernel
theorem dL_law_138 : decode cL_law 138 = .ok (.iconst 1, 1) := by decide +kernel
theorem dL_law_139 : decode cL_law 139 = .ok (.iadd, 1) := by decide +kernel
theorem dL_law_140 : decode cL_law 140 = .ok (.iaload, 1) := by decide +kernel
theorem dL_law_141 : decode cL_law 141 = .ok (.aload_n 0, 1) := by decide +kernel
theorem dL_law_142 : decode cL_law 142 = .ok (.iload_n 3, 1) := by decide +kernel
theorem dL_law_143 : decode cL_law 143 = .ok (.iconst 2, 1) := by decide +kernel
theorem dL_law_144 : decode cL_law 144 = .ok (.iadd, 1) := by decide +kernel
theorem dL_law_145 : decode cL_law 145 = .ok (.iaload, 1) := by decide +kernel
theorem dL_law_146 : decode cL_law 146 = .ok (.invokevirtual 21, 3) := by decide +kernel
theorem dL_law_149 : decode cL_law 149 = .ok (.if_icmp .eq 199, 3) := by decide +kernel
theorem dL_law_152 : decode cL_law 152 = .ok (.iconst 0, 1) := by decide +kernel
theorem dL_law_153 : decode cL_law 153 = .ok (.ireturn, 1) := by decide +kernel
theorem dL_law_154 : decode cL_law 154 = .ok (.aload_n 1, 1) := by decide +kernel
theorem dL_law_155 : decode cL_law 155 = .ok (.aload_n 0, 1) := by decide +kernel
theorem dL_law_156 : decode cL_law 156 = .ok (.iload_n 3, 1) := by decide +kernel
theorem dL_law_157 : decode cL_law 157 = .ok (.iconst 1, 1) := by decide +kernel
theorem dL_law_158 : decode cL_law 158 = .ok (.iadd, 1) := by decide +kernel
theorem dL_law_159 : decode cL_law 159 = .ok (.iaload, 1) := by decide +kernel
theorem dL_law_160 : decode cL_law 160 = .ok (.aload_n 0, 1) := by decide +kernel
theorem dL_law_161 : decode cL_law 161 = .ok (.iload_n 3, 1) := by decide +kernel
theorem dL_law_162 : decode cL_law 162 = .ok (.iconst 2, 1) := by decide +kernel
theorem dL_law_163 : decode cL_law 163 = .ok (.iadd, 1) := by decide +kernel
theorem dL_law_164 : decode cL_law 164 = .ok (.iaload, 1) := by decide +kernel
theorem dL_law_165 : decode cL_law 165 = .ok (.invokevirtual 22, 3) := by decide +kernel
theorem dL_law_168 : decode cL_law 168 = .ok (.aload_n 2, 1) := by decide +kernel
theorem dL_law_169 : decode cL_law 169 = .ok (.aload_n 0, 1) := by decide +kernel
theorem dL_law_170 : decode cL_law 170 = .ok (.iload_n 3, 1) := by decide +kernel
theorem dL_law_171 : decode cL_law 171 = .ok (.iconst 1, 1) := by decide +kernel
theorem dL_law_172 : decode cL_law 172 = .ok (.iadd, 1) := by decide +kernel
theorem dL_law_173 : decode cL_law 173 = .ok (.iaload, 1) := by decide +kernel
theorem dL_law_174 : decode cL_law 174 = .ok (.aload_n 0, 1) := by decide +kernel
theorem dL_law_175 : decode cL_law 175 = .ok (.iload_n 3, 1) := by decide +kernel
theorem dL_law_176 : decode cL_law 176 = .ok (.iconst 2, 1) := by decide +kernel
theorem dL_law_177 : decode cL_law 177 = .ok (.iadd, 1) := by decide +kernel
theorem dL_law_178 : decode cL_law 178 = .ok (.iaload, 1) := by decide +kernel
theorem dL_law_179 : decode cL_law 179 = .ok (.invokevirtual 25, 3) := by decide +kernel
theorem dL_law_182 : decode cL_law 182 = .ok (.if_icmp .eq 166, 3) := by decide +kernel
theorem dL_law_185 : decode cL_law 185 = .ok (.iconst 0, 1) := by decide +kernel
theorem dL_law_186 : decode cL_law 186 = .ok (.ireturn, 1) := by decide +kernel
theorem dL_law_187 : decode cL_law 187 = .ok (.aload_n 1, 1) := by decide +kernel
theorem dL_law_188 : decode cL_law 188 = .ok (.aload_n 0, 1) := by decide +kernel
theorem dL_law_189 : decode cL_law 189 = .ok (.iload_n 3, 1) := by decide +kernel
theorem dL_law_190 : decode cL_law 190 = .ok (.iconst 1, 1) := by decide +kernel
theorem dL_law_191 : decode cL_law 191 = .ok (.iadd, 1) := by decide +kernel
theorem dL_law_192 : decode cL_law 192 = .ok (.iaload, 1) := by decide +kernel
theorem dL_law_193 : decode cL_law 193 = .ok (.aload_n 0, 1) := by decide +kernel
theorem dL_law_194 : decode cL_law 194 = .ok (.iload_n 3, 1) := by decide +kernel
theorem dL_law_195 : decode cL_law 195 = .ok (.iconst 2, 1) := by decide +kernel
theorem dL_law_196 : decode cL_law 196 = .ok (.iadd, 1) := by decide +kernel
theorem dL_law_197 : decode cL_law 197 = .ok (.iaload, 1) := by decide +kernel
theorem dL_law_198 : decode cL_law 198 = .ok (.invokevirtual 26, 3) := by decide +kernel
theorem dL_law_201 : decode cL_law 201 = .ok (.aload_n 2, 1) := by decide +kernel
theorem dL_law_202 : decode cL_law 202 = .ok (.aload_n 0, 1) := by decide +kernel
theorem dL_law_203 : decode cL_law 203 = .ok (.iload_n 3, 1) := by decide +kernel
theorem dL_law_204 : decode cL_law 204 = .ok (.iconst 1, 1) := by decide +kernel
theorem dL_law_205 : decode cL_law 205 = .ok (.iadd, 1) := by decide +kernel
theorem dL_law_206 : decode cL_law 206 = .ok (.iaload, 1) := by decide +kernel
theorem dL_law_207 : decode cL_law 207 = .ok (.aload_n 0, 1) := by decide +kernel
theorem dL_law_208 : decode cL_law 208 = .ok (.iload_n 3, 1) := by decide +kernel
theorem dL_law_209 : decode cL_law 209 = .ok (.iconst 2, 1) := by decide +kernel
theorem dL_law_210 : decode cL_law 210 = .ok (.iadd, 1) := by decide +kernel
theorem dL_law_211 : decode cL_law 211 = .ok (.iaload, 1) := by decide +kernel
theorem dL_law_212 : decode cL_law 212 = .ok (.invokevirtual 29, 3) := by decide +kernel
theorem dL_law_215 : decode cL_law 215 = .ok (.if_icmp .eq 133, 3) := by decide +kernel
theorem dL_law_218 : decode cL_law 218 = .ok (.iconst 0, 1) := by decide +kernel
theorem dL_law_219 : decode cL_law 219 = .ok (.ireturn, 1) := by decide +kernel
theorem dL_law_220 : decode cL_law 220 = .ok (.aload_n 1, 1) := by decide +kernel
theorem dL_law_221 : decode cL_law 221 = .ok (.invokevirtual 30, 3) := by decide +kernel
theorem dL_law_224 : decode cL_law 224 = .ok (.aload_n 2, 1) := by decide +kernel
theorem dL_law_225 : decode cL_law 225 = .ok (.invokevirtual 34, 3) := by decide +kernel
theorem dL_law_228 : decode cL_law 228 = .ok (.if_icmp .eq 120, 3) := by decide +kernel
theorem dL_law_231 : decode cL_law 231 = .ok (.iconst 0, 1) := by decide +kernel
theorem dL_law_232 : decode cL_law 232 = .ok (.ireturn, 1) := by decide +kernel
theorem dL_law_233 : decode cL_law 233 = .ok (.aload_n 1, 1) := by decide +kernel
theorem dL_law_234 : decode cL_law 234 = .ok (.aload_n 0, 1) := by decide +kernel
theorem dL_law_235 : decode cL_law 235 = .ok (.iload_n 3, 1) := by decide +kernel
theorem dL_law_236 : decode cL_law 236 = .ok (.iconst 1, 1) := by decide +kernel
theorem dL_law_237 : decode cL_law 237 = .ok (.iadd, 1) := by decide +kernel
theorem dL_law_238 : decode cL_law 238 = .ok (.iaload, 1) := by decide +kernel
theorem dL_law_239 : decode cL_law 239 = .ok (.invokevirtual 35, 3) := by decide +kernel
theorem dL_law_242 : decode cL_law 242 = .ok (.aload_n 2, 1) := by decide +kernel
theorem dL_law_243 : decode cL_law 243 = .ok (.aload_n 0, 1) := by decide +kernel
theorem dL_law_244 : decode cL_law 244 = .ok (.iload_n 3, 1) := by decide +kernel
theorem dL_law_245 : decode cL_law 245 = .ok (.iconst 1, 1) := by decide +kernel
theorem dL_law_246 : decode cL_law 246 = .ok (.iadd, 1) := by decide +kernel
theorem dL_law_247 : decode cL_law 247 = .ok (.iaload, 1) := by decide +kernel
theorem dL_law_248 : decode cL_law 248 = .ok (.invokevirtual 39, 3) := by decide +kernel
theorem dL_law_251 : decode cL_law 251 = .ok (.if_icmp .eq 97, 3) := by decide +kernel
theorem dL_law_254 : decode cL_law 254 = .ok (.iconst 0, 1) := by decide +kernel
theorem dL_law_255 : decode cL_law 255 = .ok (.ireturn, 1) := by decide +kernel
theorem dL_law_256 : decode cL_law 256 = .ok (.aload_n 1, 1) := by decide +kernel
theorem dL_law_257 : decode cL_law 257 = .ok (.aload_n 0, 1) := by decide +kernel
theorem dL_law_258 : decode cL_law 258 = .ok (.iload_n 3, 1) := by decide +kernel
theorem dL_law_259 : decode cL_law 259 = .ok (.iconst 1, 1) := by decide +kernel
theorem dL_law_260 : decode cL_law 260 = .ok (.iadd, 1) := by decide +kernel
theorem dL_law_261 : decode cL_law 261 = .ok (.iaload, 1) := by decide +kernel
theorem dL_law_262 : decode cL_law 262 = .ok (.invokevirtual 40, 3) := by decide +kernel
theorem dL_law_265 : decode cL_law 265 = .ok (.aload_n 2, 1) := by decide +kernel
theorem dL_law_266 : decode cL_law 266 = .ok (.aload_n 0, 1) := by decide +kernel
theorem dL_law_267 : decode cL_law 267 = .ok (.iload_n 3, 1) := by decide +kernel
theorem dL_law_268 : decode cL_law 268 = .ok (.iconst 1, 1) := by decide +kernel
theorem dL_law_269 : decode cL_law 269 = .ok (.iadd, 1) := by decide +kernel
theorem dL_law_270 : decode cL_law 270 = .ok (.iaload, 1) := by decide +kernel
theorem dL_law_271 : decode cL_law 271 = .ok (.invokevirtual 43, 3) := by decide +kernel
theorem dL_law_274 : decode cL_law 274 = .ok (.if_icmp .eq 74, 3) := by decide +kernel
theorem dL_law_277 : decode cL_law 277 = .ok (.iconst 0, 1) := by decide +kernel
theorem dL_law_278 : decode cL_law 278 = .ok (.ireturn, 1) := by decide +kernel
theorem dL_law_279 : decode cL_law 279 = .ok (.aload_n 1, 1) := by decide +kernel
theorem dL_law_280 : decode cL_law 280 = .ok (.aload_n 0, 1) := by decide +kernel
theorem dL_law_281 : decode cL_law 281 = .ok (.iload_n 3, 1) := by decide +kernel
theorem dL_law_282 : decode cL_law 282 = .ok (.iconst 1, 1) := by decide +kernel
theorem dL_law_283 : decode cL_law 283 = .ok (.iadd, 1) := by decide +kernel
theorem dL_law_284 : decode cL_law 284 = .ok (.iaload, 1) := by decide +kernel
theorem dL_law_285 : decode cL_law 285 = .ok (.aload_n 0, 1) := by decide +kernel
theorem dL_law_286 : decode cL_law 286 = .ok (.iload_n 3, 1) := by decide +kernel
theorem dL_law_287 : decode cL_law 287 = .ok (.iconst 2, 1) := by decide +kernel
theorem dL_law_288 : decode cL_law 288 = .ok (.iadd, 1) := by decide +kernel
theorem dL_law_289 : decode cL_law 289 = .ok (.iaload, 1) := by decide +kernel
theorem dL_law_290 : decode cL_law 290 = .ok (.invokevirtual 44, 3) := by decide +kernel
theorem dL_law_293 : decode cL_law 293 = .ok (.aload_n 2, 1) := by decide +kernel
theorem dL_law_294 : decode cL_law 294 = .ok (.aload_n 0, 1) := by decide +kernel
theorem dL_law_295 : decode cL_law 295 = .ok (.iload_n 3, 1) := by decide +kernel
theorem dL_law_296 : decode cL_law 296 = .ok (.iconst 1, 1) := by decide +kernel
theorem dL_law_297 : decode cL_law 297 = .ok (.iadd, 1) := by decide +kernel
theorem dL_law_298 : decode cL_law 298 = .ok (.iaload, 1) := by decide +kernel
theorem dL_law_299 : decode cL_law 299 = .ok (.aload_n 0, 1) := by decide +kernel
theorem dL_law_300 : decode cL_law 300 = .ok (.iload_n 3, 1) := by decide +kernel
theorem dL_law_301 : decode cL_law 301 = .ok (.iconst 2, 1) := by decide +kernel
theorem dL_law_302 : decode cL_law 302 = .ok (.iadd, 1) := by decide +kernel
theorem dL_law_303 : decode cL_law 303 = .ok (.iaload, 1) := by decide +kernel
theorem dL_law_304 : decode cL_law 304 = .ok (.invokevirtual 47, 3) := by decide +kernel
theorem dL_law_307 : decode cL_law 307 = .ok (.if_icmp .eq 41, 3) := by decide +kernel
theorem dL_law_310 : decode cL_law 310 = .ok (.iconst 0, 1) := by decide +kernel
theorem dL_law_311 : decode cL_law 311 = .ok (.ireturn, 1) := by decide +kernel
theorem dL_law_312 : decode cL_law 312 = .ok (.aload_n 1, 1) := by decide +kernel
theorem dL_law_313 : decode cL_law 313 = .ok (.aload_n 0, 1) := by decide +kernel
theorem dL_law_314 : decode cL_law 314 = .ok (.iload_n 3, 1) := by decide +kernel
theorem dL_law_315 : decode cL_law 315 = .ok (.iconst 1, 1) := by decide +kernel
theorem dL_law_316 : decode cL_law 316 = .ok (.iadd, 1) := by decide +kernel
theorem dL_law_317 : decode cL_law 317 = .ok (.iaload, 1) := by decide +kernel
theorem dL_law_318 : decode cL_law 318 = .ok (.invokevirtual 48, 3) := by decide +kernel
theorem dL_law_321 : decode cL_law 321 = .ok (.aload_n 2, 1) := by decide +kernel
theorem dL_law_322 : decode cL_law 322 = .ok (.aload_n 0, 1) := by decide +kernel
theorem dL_law_323 : decode cL_law 323 = .ok (.iload_n 3, 1) := by decide +kernel
theorem dL_law_324 : decode cL_law 324 = .ok (.iconst 1, 1) := by decide +kernel
theorem dL_law_325 : decode cL_law 325 = .ok (.iadd, 1) := by decide +kernel
theorem dL_law_326 : decode cL_law 326 = .ok (.iaload, 1) := by decide +kernel
theorem dL_law_327 : decode cL_law 327 = .ok (.invokevirtual 51, 3) := by decide +kernel
theorem dL_law_330 : decode cL_law 330 = .ok (.if_icmp .eq 18, 3) := by decide +kernel
theorem dL_law_333 : decode cL_law 333 = .ok (.iconst 0, 1) := by decide +kernel
theorem dL_law_334 : decode cL_law 334 = .ok (.ireturn, 1) := by decide +kernel
theorem dL_law_335 : decode cL_law 335 = .ok (.aload_n 1, 1) := by decide +kernel
theorem dL_law_336 : decode cL_law 336 = .ok (.invokevirtual 52, 3) := by decide +kernel
theorem dL_law_339 : decode cL_law 339 = .ok (.aload_n 2, 1) := by decide +kernel
theorem dL_law_340 : decode cL_law 340 = .ok (.invokevirtual 55, 3) := by decide +kernel
theorem dL_law_343 : decode cL_law 343 = .ok (.if_icmp .eq 5, 3) := by decide +kernel
theorem dL_law_346 : decode cL_law 346 = .ok (.iconst 0, 1) := by decide +kernel
theorem dL_law_347 : decode cL_law 347 = .ok (.ireturn, 1) := by decide +kernel
theorem dL_law_348 : decode cL_law 348 = .ok (.iinc 3 3, 3) := by decide +kernel
theorem dL_law_351 : decode cL_law 351 = .ok (.goto (-333), 3) := by decide +kernel
theorem dL_law_354 : decode cL_law 354 = .ok (.iconst 1, 1) := by decide +kernel
theorem dL_law_355 : decode cL_law 355 = .ok (.ireturn, 1) := by decide +kernel
abbrev vwCl : List vw_C := [(RX0, TX0, 11), (RX1, TX1, 9)]
end
section
/-! rows of our own: numbers as naturals, calls over one world whose addresses stay -/
def px_b (b : Bool) : Int32 := match b with
  | true => 1
  | false => 0
theorem px_b_t : px_b true = 1 := rfl
theorem px_b_f : px_b false = 0 := rfl
theorem px_b_nar (b : Bool) : narrow .boolean (.int (px_b b)) = .int (px_b b) := by cases b <;> decide +kernel
theorem px_b_fit (b : Bool) : fits .boolean (.int (px_b b)) = true := by cases b <;> decide +kernel
theorem px_b_vn (b : Bool) : vp_nar .boolean (px_b b) = px_b b := by cases b <;> decide +kernel
theorem px_b_0 {b : Bool} : px_b b = 0 ↔ b = false := by cases b <;> decide +kernel
theorem px_b_n0 {b : Bool} : ¬ px_b b = 0 ↔ b = true := by cases b <;> decide +kernel
abbrev rmd (d : Nat) : Room := { frames := d, cells := 0, slots := 0, locals := 30 * d }
theorem px_met {l : Launch} {y : MethodName} {ws ws' : List Cond} {rm : Room} {Bc : State → Prop} {Qc : Array Value → State → Outcome → State → Prop} {mc ms : Nat} {free : Addr → Prop} {cc : ByteArray} {maxL : Nat} {ret : Option FieldType} {av : List Value} {lv : List (Nat × Value)} (hy : plainName y.cls = true) (hw : ws = Cond.code y cc maxL ret :: ws') (hlen : (lg_sl av).length ≤ maxL) (hlv : lv_args 0 av = lv)
    (body : ∀ (p : Program) (e : Env) (s : State) (m : MethodId) (below : List Frame) (meth : Method) (c : Code) (ls : Array Slot), CallFix p m c cc maxL s av.toArray ws y.cls → meth.sig.returnType = ret → meth.locks = false → meth.name = y.name → Bc s → lv_has ls maxL lv → W p l e rm s m av.toArray below meth c s.heap [] 0 0 (MQ below Qc av.toArray s mc ms free) (F0 m 0 ls [])) : Met l y ws rm (va_Pc av Bc) Qc mc ms free := by
  refine Met.ofW hy hw ?_
  intro p e s m args below meth c s₁ B hml hv
  obtain ⟨rfl, hB⟩ := hv
  rw [lg_entry_eq]
  exact body p e s m below meth c _ ⟨B.exec, B.bytes, hml, findClass_of_methodNamed B.named, atoms_spec (ws := ws) B.pre⟩ B.returns B.notSynchronized (name_of_methodNamed B.named B.method).1 hB (hlv ▸ lv_entry av hlen)
section PX
variable {p : Program} {l : Launch} {e : Env} {R : Room} {s : State} {m : MethodId} {args : Array Value} {below : List Frame} {meth : Method} {c : Code} {H : Heap} {locs : List Loc} {cells slots : Nat} {Q : State → Prop}
variable {cc : ByteArray} {pc : Nat} {ls : Array Slot} {rest : List Value}
theorem px_ge (hx : p.tables.exec = Jvm.exec) (hb : c.code = cc) {a b : Nat} {off : Int} {tgt : Nat} (hdg : decode cc pc = .ok (.if_icmp .ge off, 3)) (ht : (pc : Int) + off = (tgt : Int)) (ha : a < 2 ^ 31) (hc : b < 2 ^ 31)
    (kt : b ≤ a → W p l e R s m args below meth c H locs cells slots Q (F0 m tgt ls rest)) (kf : a < b → W p l e R s m args below meth c H locs cells slots Q (F0 m (pc + 3) ls rest)) : W p l e R s m args below meth c H locs cells slots Q (F0 m pc ls (.int (nI b) :: .int (nI a) :: rest)) :=
  lv_icmp_ge hx hb hdg ht (fun h => kt ((nI_leI hc ha).mp h)) (fun h => kf (Nat.lt_of_not_le fun q => h ((nI_leI hc ha).mpr q)))
theorem px_gt (hx : p.tables.exec = Jvm.exec) (hb : c.code = cc) {a b : Nat} {off : Int} {tgt : Nat} (hdg : decode cc pc = .ok (.if_icmp .gt off, 3)) (ht : (pc : Int) + off = (tgt : Int)) (ha : a < 2 ^ 31) (hc : b < 2 ^ 31)
    (kt : b < a → W p l e R s m args below meth c H locs cells slots Q (F0 m tgt ls rest)) (kf : a ≤ b → W p l e R s m args below meth c H locs cells slots Q (F0 m (pc + 3) ls rest)) : W p l e R s m args below meth c H locs cells slots Q (F0 m pc ls (.int (nI b) :: .int (nI a) :: rest)) :=
  lv_icmp_gt hx hb hdg ht (fun h => kt ((nI_ltI hc ha).mp h)) (fun h => kf (Nat.le_of_not_lt fun q => h ((nI_ltI hc ha).mpr q)))
theorem px_add (hx : p.tables.exec = Jvm.exec) (hb : c.code = cc) {a b : Nat} (hdg : decode cc pc = .ok (.iadd, 1)) (k : W p l e R s m args below meth c H locs cells slots Q (F0 m (pc + 1) ls (.int (nI (a + b)) :: rest))) : W p l e R s m args below meth c H locs cells slots Q (F0 m pc ls (.int (nI b) :: .int (nI a) :: rest)) :=
  lv_iadd hx hb hdg (by rw [nI_add]; exact k)
theorem px_mul (hx : p.tables.exec = Jvm.exec) (hb : c.code = cc) {a b : Nat} (hdg : decode cc pc = .ok (.imul, 1)) (k : W p l e R s m args below meth c H locs cells slots Q (F0 m (pc + 1) ls (.int (nI (a * b)) :: rest))) : W p l e R s m args below meth c H locs cells slots Q (F0 m pc ls (.int (nI b) :: .int (nI a) :: rest)) :=
  lv_imul hx hb hdg (by rw [pk_mul]; exact k)
theorem px_div (hx : p.tables.exec = Jvm.exec) (hb : c.code = cc) {a b : Nat} (hdg : decode cc pc = .ok (.idiv, 1)) (ha : a < 2 ^ 31) (h0 : 0 < b) (hc : b < 2 ^ 31) (k : W p l e R s m args below meth c H locs cells slots Q (F0 m (pc + 1) ls (.int (nI (a / b)) :: rest))) : W p l e R s m args below meth c H locs cells slots Q (F0 m pc ls (.int (nI b) :: .int (nI a) :: rest)) :=
  lv_idiv hx hb hdg (nI_ne0 h0 hc) (by rw [pk_div ha h0 hc]; exact k)
theorem px_rem (hx : p.tables.exec = Jvm.exec) (hb : c.code = cc) {a b : Nat} (hdg : decode cc pc = .ok (.irem, 1)) (ha : a < 2 ^ 31) (h0 : 0 < b) (hc : b < 2 ^ 31) (k : W p l e R s m args below meth c H locs cells slots Q (F0 m (pc + 1) ls (.int (nI (a % b)) :: rest))) : W p l e R s m args below meth c H locs cells slots Q (F0 m pc ls (.int (nI b) :: .int (nI a) :: rest)) :=
  lv_irem hx hb hdg (nI_ne0 h0 hc) (by rw [pk_rem ha h0 hc]; exact k)
theorem px_eqb (hx : p.tables.exec = Jvm.exec) (hb : c.code = cc) {b : Bool} {off : Int} {tgt : Nat} (hdg : decode cc pc = .ok (.ifCond .eq off, 3)) (ht : (pc : Int) + off = (tgt : Int))
    (kt : b = false → W p l e R s m args below meth c H locs cells slots Q (F0 m tgt ls rest)) (kf : b = true → W p l e R s m args below meth c H locs cells slots Q (F0 m (pc + 3) ls rest)) : W p l e R s m args below meth c H locs cells slots Q (F0 m pc ls (.int (px_b b) :: rest)) :=
  lv_if_eq hx hb hdg ht (fun h => kt (px_b_0.mp h)) (fun h => kf (px_b_n0.mp h))
theorem px_neb (hx : p.tables.exec = Jvm.exec) (hb : c.code = cc) {b : Bool} {off : Int} {tgt : Nat} (hdg : decode cc pc = .ok (.ifCond .ne off, 3)) (ht : (pc : Int) + off = (tgt : Int))
    (kt : b = true → W p l e R s m args below meth c H locs cells slots Q (F0 m tgt ls rest)) (kf : b = false → W p l e R s m args below meth c H locs cells slots Q (F0 m (pc + 3) ls rest)) : W p l e R s m args below meth c H locs cells slots Q (F0 m pc ls (.int (px_b b) :: rest)) :=
  lv_if_ne hx hb hdg ht (fun h => kt (px_b_n0.mp h)) (fun h => kf (px_b_0.mp h))
variable {D : va_G} {A : Nat → Prop} {a : Nat} {tys : List (ClassId × FieldType)} {ws : va_W} {H0 : Heap} {cl : List vw_C}
theorem px_iald (hx : p.tables.exec = Jvm.exec) (hb : c.code = cc) (hK : va_K D cl tys s) (hP : va_P D cl ws H) (q0 t0 : Nat) {cA : ClassId} {n i : Nat} {f : Nat → Int32} (ha : ws[q0]? = some (a, .inl (cA, n, .inl f))) (ht : tys[t0]? = some (cA, .int)) (hi : i < n) (hn : n < 2 ^ 31) (hdg : decode cc pc = .ok (.iaload, 1))
    (kk : W p l e R s m args below meth c H locs cells slots Q (F0 m (pc + 1) ls (.int (f i) :: rest))) : W p l e R s m args below meth c H locs cells slots Q (F0 m pc ls (.int (nI i) :: .ref a :: rest)) :=
  va_iald hx hb hK hP q0 t0 ha ht (vp_in_nI hi hn) hdg (by rw [nI_clamp (Nat.lt_trans hi hn)]; exact kk)
theorem px_zald (hx : p.tables.exec = Jvm.exec) (hb : c.code = cc) (hK : va_K D cl tys s) (hP : va_P D cl ws H) (q0 t0 : Nat) {cA : ClassId} {n i : Nat} {f : Nat → Int32} (ha : ws[q0]? = some (a, .inl (cA, n, .inl f))) (ht : tys[t0]? = some (cA, .boolean)) (hi : i < n) (hn : n < 2 ^ 31) (hdg : decode cc pc = .ok (.baload, 1))
    (kk : W p l e R s m args below meth c H locs cells slots Q (F0 m (pc + 1) ls (.int (f i) :: rest))) : W p l e R s m args below meth c H locs cells slots Q (F0 m pc ls (.int (nI i) :: .ref a :: rest)) :=
  va_zald hx hb hK hP q0 t0 ha ht (vp_in_nI hi hn) hdg (by rw [nI_clamp (Nat.lt_trans hi hn)]; exact kk)
theorem px_lald (hx : p.tables.exec = Jvm.exec) (hb : c.code = cc) (hK : va_K D cl tys s) (hP : va_P D cl ws H) (q0 t0 : Nat) {cA : ClassId} {n i : Nat} {f : Nat → Int64} (ha : ws[q0]? = some (a, .inl (cA, n, .inr (.inl f)))) (ht : tys[t0]? = some (cA, .long)) (hi : i < n) (hn : n < 2 ^ 31) (hdg : decode cc pc = .ok (.laload, 1))
    (kk : W p l e R s m args below meth c H locs cells slots Q (F0 m (pc + 1) ls (.long (f i) :: rest))) : W p l e R s m args below meth c H locs cells slots Q (F0 m pc ls (.int (nI i) :: .ref a :: rest)) :=
  va_lald hx hb hK hP q0 t0 ha ht (vp_in_nI hi hn) hdg (by rw [nI_clamp (Nat.lt_trans hi hn)]; exact kk)
theorem px_iast (hx : p.tables.exec = Jvm.exec) (hb : c.code = cc) (hK : va_K D cl tys s) (hP : va_P D cl ws H) (hD : va_D A ws) (hS : va_S A H0 H locs) (q0 t0 : Nat) {cA : ClassId} {n i : Nat} {f : Nat → Int32} {x : Int32} {ws' : va_W} (ha : ws[q0]? = some (a, .inl (cA, n, .inl f))) (ht : tys[t0]? = some (cA, .int)) (hi : i < n) (hn : n < 2 ^ 31) (hw : ws.set q0 (a, .inl (cA, n, .inl (upd f i x))) = ws') (hdg : decode cc pc = .ok (.iastore, 1))
    (kk : ∀ (H : Heap) (locs : List Loc), va_P D cl ws' H → va_D A ws' → va_S A H0 H locs → W p l e R s m args below meth c H locs cells slots Q (F0 m (pc + 1) ls rest)) : W p l e R s m args below meth c H locs cells slots Q (F0 m pc ls (.int x :: .int (nI i) :: .ref a :: rest)) := by
  subst hw
  exact va_iast hx hb hK hP hD hS q0 t0 ha ht (vp_in_nI hi hn) hdg (by rw [nI_clamp (Nat.lt_trans hi hn)]; exact kk)
theorem px_zast (hx : p.tables.exec = Jvm.exec) (hb : c.code = cc) (hK : va_K D cl tys s) (hP : va_P D cl ws H) (hD : va_D A ws) (hS : va_S A H0 H locs) (q0 t0 : Nat) {cA : ClassId} {n i : Nat} {f : Nat → Int32} {x : Bool} {ws' : va_W} (ha : ws[q0]? = some (a, .inl (cA, n, .inl f))) (ht : tys[t0]? = some (cA, .boolean)) (hi : i < n) (hn : n < 2 ^ 31) (hw : ws.set q0 (a, .inl (cA, n, .inl (upd f i (px_b x)))) = ws') (hdg : decode cc pc = .ok (.bastore, 1))
    (kk : ∀ (H : Heap) (locs : List Loc), va_P D cl ws' H → va_D A ws' → va_S A H0 H locs → W p l e R s m args below meth c H locs cells slots Q (F0 m (pc + 1) ls rest)) : W p l e R s m args below meth c H locs cells slots Q (F0 m pc ls (.int (px_b x) :: .int (nI i) :: .ref a :: rest)) := by
  subst hw
  exact va_zast hx hb hK hP hD hS q0 t0 ha ht (vp_in_nI hi hn) hdg (by rw [nI_clamp (Nat.lt_trans hi hn), px_b_vn]; exact kk)
theorem px_last (hx : p.tables.exec = Jvm.exec) (hb : c.code = cc) (hK : va_K D cl tys s) (hP : va_P D cl ws H) (hD : va_D A ws) (hS : va_S A H0 H locs) (q0 t0 : Nat) {cA : ClassId} {n i : Nat} {f : Nat → Int64} {x : Int64} {ws' : va_W} (ha : ws[q0]? = some (a, .inl (cA, n, .inr (.inl f)))) (ht : tys[t0]? = some (cA, .long)) (hi : i < n) (hn : n < 2 ^ 31) (hw : ws.set q0 (a, .inl (cA, n, .inr (.inl (vp_updL f i x)))) = ws') (hdg : decode cc pc = .ok (.lastore, 1))
    (kk : ∀ (H : Heap) (locs : List Loc), va_P D cl ws' H → va_D A ws' → va_S A H0 H locs → W p l e R s m args below meth c H locs cells slots Q (F0 m (pc + 1) ls rest)) : W p l e R s m args below meth c H locs cells slots Q (F0 m pc ls (.long x :: .int (nI i) :: .ref a :: rest)) := by
  subst hw
  exact va_last hx hb hK hP hD hS q0 t0 ha ht (vp_in_nI hi hn) hdg (by rw [nI_clamp (Nat.lt_trans hi hn)]; exact kk)
theorem px_put (hx : p.tables.exec = Jvm.exec) (hb : c.code = cc) {own ref C : String} {T : u_T} {N ci index : Nat} {Ts : List Cond} (hts : ∀ w ∈ Ts, w.before args s = true) (hin : ∀ w ∈ u_ws C T N, w ∈ Ts) (ty0 : Nat → FieldType) (hty : ∀ k, k < N → parseFieldDescriptor (T k).2.2.1 = some (ty0 k)) (hnm : ∀ a, a < N → ∀ b, b < N → a ≠ b → (T a).2.1 ≠ (T b).2.1) (hown : s.vm.findClass own = some m.cls) (hK : va_K D cl tys s) (hP : va_P D cl ws H) (hD : va_D A ws) (hS0 : va_S A H0 H locs) (q0 : Nat) {fs : List Value} (he : ws[q0]? = some (a, .inr (ci, fs))) (hc : cl[ci]? = some (C, T, N)) (k : Nat) (hk : k < N) (hlink : (Cond.fieldLink own index ref (T k).2.1 (T k).2.2.1).before args s = true) (hsame : ∀ x, s.fieldFound? (T k).1 (T k).2.1 (T k).2.2.1 = some x → s.fieldFound? ref (T k).2.1 (T k).2.2.1 = some x) (hfin : (T k).2.2.2 = false) {ty : FieldType} {v : Value} {ws' : va_W} (hd : parseFieldDescriptor (T k).2.2.1 = some ty) (hn : narrow ty v = v) (hfit : fits ty v = true) (hl : k < fs.length) (hw : ws.set q0 (a, .inr (ci, fs.set k v)) = ws')
    (hdg : decode cc pc = .ok (.putfield index, 3)) (kk : ∀ (H : Heap) (locs : List Loc), va_P D cl ws' H → va_D A ws' → va_S A H0 H locs → W p l e R s m args below meth c H locs cells slots Q (F0 m (pc + 3) ls rest)) : W p l e R s m args below meth c H locs cells slots Q (F0 m pc ls (v :: .ref a :: rest)) := by
  subst hw
  exact va_put hx hb hts hin ty0 hty hnm hown hK hP hD hS0 q0 he hc k hk hlink hsame hfin hd hn hfit hl hdg kk
end PX
/-! worlds whose addresses stay -/
def px_B (ws : va_W) : Nat → Prop := fun q => ∃ (k : Nat) (e : va_E), ws[k]? = some (q, e)
theorem px_fst {ws ws' : va_W} (h : ws.map (·.1) = ws'.map (·.1)) {i : Nat} {q : Nat × va_E} (hq : ws[i]? = some q) : ∃ e, ws'[i]? = some (q.1, e) := by
  have h1 : (ws.map (·.1))[i]? = some q.1 := by rw [List.getElem?_map, hq]; rfl
  rw [h, List.getElem?_map] at h1
  cases h2 : ws'[i]? with
  | none => rw [h2] at h1; cases h1
  | some r =>
    rw [h2] at h1
    obtain ⟨a, e⟩ := r
    exact ⟨e, by rw [show a = q.1 from Option.some.inj h1]⟩
theorem px_Dm {A : Nat → Prop} {ws ws' : va_W} (hD : va_D A ws) (h : ws'.map (·.1) = ws.map (·.1)) : va_D A ws' := by
  refine ⟨fun i j x y hx hy hxy => ?_, fun k x hx => ?_⟩
  · obtain ⟨e1, h1⟩ := px_fst h hx
    obtain ⟨e2, h2⟩ := px_fst h hy
    exact hD.1 i j _ _ h1 h2 hxy
  · obtain ⟨e1, h1⟩ := px_fst h hx
    exact hD.2 k (x.1, e1) h1
theorem px_Dself {A : Nat → Prop} {ws : va_W} (hD : va_D A ws) : va_D (px_B ws) ws := ⟨hD.1, fun k q h => ⟨k, q.2, h⟩⟩
theorem px_BA {A : Nat → Prop} {ws : va_W} (hD : va_D A ws) : ∀ q, px_B ws q → A q := fun q ⟨k, e, h⟩ => hD.2 k _ h
/-- cells of another world stay -/
theorem px_other {D : va_G} {cl : List vw_C} {A : Nat → Prop} {ws wr : va_W} {H H1 : Heap} (hP : va_P D cl wr H) (hx : ∀ (i j : Nat) (x y : Nat × va_E), ws[i]? = some x → wr[j]? = some y → x.1 ≠ y.1) (hk : ∀ q : Nat, q < H.size → ¬ px_B ws q → H1[q]? = H[q]?) : va_P D cl wr H1 :=
  hP.kept (fun k q hq => hk q.1 (hP k q hq).lt (fun ⟨i, e, h⟩ => hx i k _ _ h hq rfl))
abbrev RdI (l : Launch) (y : MethodName) (wm : List Cond) (rm : Room) (D : va_G) (tys : List (ClassId × FieldType)) (av : List Value) (ws : va_W) (v : Int32) : Prop := Met l y wm rm (va_Pc av (fun U => va_P D vwCl ws U.heap ∧ va_K D vwCl tys U)) (vp_Si (fun r => r = v)) 0 0 (fun _ => False)
abbrev PuI (l : Launch) (y : MethodName) (wm : List Cond) (rm : Room) (av : List Value) (v : Int32) : Prop := Met l y wm rm (va_Pc av (fun _ => True)) (vp_Si (fun r => r = v)) 0 0 (fun _ => False)
abbrev PuL (l : Launch) (y : MethodName) (wm : List Cond) (rm : Room) (av : List Value) (v : Int64) : Prop := Met l y wm rm (va_Pc av (fun _ => True)) (vp_Sl (fun r => r = v)) 0 0 (fun _ => False)
abbrev WrV (l : Launch) (y : MethodName) (wm : List Cond) (rm : Room) (D : va_G) (tys : List (ClassId × FieldType)) (av : List Value) (ws : va_W) {S : Type} (post : S → Prop) (wf : S → va_W) : Prop := Met l y wm rm (va_Pc av (fun U => va_P D vwCl ws U.heap ∧ va_K D vwCl tys U ∧ va_D (px_B ws) ws)) (va_Qv post (fun u t => va_P D vwCl (wf u) t.heap) (px_B ws)) 0 0 (px_B ws)
abbrev WrI (l : Launch) (y : MethodName) (wm : List Cond) (rm : Room) (D : va_G) (tys : List (ClassId × FieldType)) (av : List Value) (ws : va_W) {S : Type} (post : Int32 → S → Prop) (wf : S → va_W) : Prop := Met l y wm rm (va_Pc av (fun U => va_P D vwCl ws U.heap ∧ va_K D vwCl tys U ∧ va_D (px_B ws) ws)) (va_Qi post (fun u t => va_P D vwCl (wf u) t.heap) (px_B ws)) 0 0 (px_B ws)
section PY
variable {p : Program} {l : Launch} {e : Env} {R : Room} {s : State} {m : MethodId} {args : Array Value} {below : List Frame} {meth : Method} {c : Code} {H : Heap} {locs : List Loc} {cells slots : Nat} {Q : State → Prop}
variable {cc bytes : ByteArray} {pc nL maxL n index : Nat} {ls : Array Slot} {rest st0 As : List Value} {D : va_G} {A : Nat → Prop} {b : Nat} {tys : List (ClassId × FieldType)} {ws : va_W} {H0 : Heap} {Ts wm : List Cond} {own : String} {y : MethodName} {rm : Room} {ret : Option FieldType} {v : Int32} {ci : Nat} {fs : List Value} {q : vw_C}
theorem px_rd (S : CallFix p m c cc nL s args Ts own) (hP : va_P D vwCl ws H) (hK : va_K D vwCl tys s) (hM : RdI l y wm rm D tys (.ref b :: As) ws v) (cw : CallW R s args own q.1 index y bytes maxL ret wm rm 0 0 n) (he : ws[0]? = some (b, .inr (ci, fs))) (hc : vwCl[ci]? = some q) (hn : As.length = n) (hl : ls.size = nL) (hst : st0 = As.reverse ++ .ref b :: rest) (hW : (rest.map fun v => v.category).sum ≤ 8) (hdg : decode cc pc = .ok (.invokevirtual index, 3)) (hf : cells ≤ R.cells ∧ slots ≤ R.slots)
    (kk : W p l e R s m args below meth c H locs cells slots Q (F0 m (pc + 3) ls (.int v :: rest))) : W p l e R s m args below meth c H locs cells slots Q (F0 m pc ls st0) :=
  vp_callSi (W.runV (b := b) (As := As) (rest := rest) (g := F0 m pc ls st0) S hM cw ⟨fun a U g mk z => ⟨z.1, z.2.1, va_K.moved (u := U) (U := U.calling g mk a) (Vm.Alike.refl U.vm) z.2.2⟩, va_recv hK hP hc he, fun U hU hW => ⟨rfl, by rw [hU]; exact hP, va_K.moved hW.alike hK⟩⟩ rfl hn hl hst (lv_room hW) hdg hf) (fun r hr => by rw [hr]; exact kk)
theorem px_pu (S : CallFix p m c cc nL s args Ts own) (hM : PuI l y wm rm As v) (cw : CallB R s args own index y bytes maxL ret wm rm 0 0 n ∧ (Cond.static y).before args s = true) (hn : As.length = n) (hl : ls.size = nL) (hst : st0 = As.reverse ++ rest) (hW : (rest.map fun v => v.category).sum ≤ 8) (hdg : decode cc pc = .ok (.invokestatic index, 3)) (hf : cells ≤ R.cells ∧ slots ≤ R.slots)
    (kk : W p l e R s m args below meth c H locs cells slots Q (F0 m (pc + 3) ls (.int v :: rest))) : W p l e R s m args below meth c H locs cells slots Q (F0 m pc ls st0) :=
  vp_callSi (W.runS (As := As) (rest := rest) (g := F0 m pc ls st0) S hM cw ⟨fun a U g mk z => ⟨z.1, trivial⟩, fun U hU hW => ⟨rfl, trivial⟩⟩ rfl hn hl hst (lv_room hW) hdg hf) (fun r hr => by rw [hr]; exact kk)
theorem px_pl {v : Int64} (S : CallFix p m c cc nL s args Ts own) (hM : PuL l y wm rm As v) (cw : CallB R s args own index y bytes maxL ret wm rm 0 0 n ∧ (Cond.static y).before args s = true) (hn : As.length = n) (hl : ls.size = nL) (hst : st0 = As.reverse ++ rest) (hW : (rest.map fun v => v.category).sum ≤ 8) (hdg : decode cc pc = .ok (.invokestatic index, 3)) (hf : cells ≤ R.cells ∧ slots ≤ R.slots)
    (kk : W p l e R s m args below meth c H locs cells slots Q (F0 m (pc + 3) ls (.long v :: rest))) : W p l e R s m args below meth c H locs cells slots Q (F0 m pc ls st0) :=
  vp_callSl (W.runS (As := As) (rest := rest) (g := F0 m pc ls st0) S hM cw ⟨fun a U g mk z => ⟨z.1, trivial⟩, fun U hU hW => ⟨rfl, trivial⟩⟩ rfl hn hl hst (lv_room hW) hdg hf) (fun r hr => by rw [hr]; exact kk)
theorem px_wv {σ : Type} {post : σ → Prop} {wf : σ → va_W} (S : CallFix p m c cc nL s args Ts own) (hP : va_P D vwCl ws H) (hK : va_K D vwCl tys s) (hD : va_D A ws) (hS : va_S A H0 H locs) (hM : WrV l y wm rm D tys (.ref b :: As) ws post wf) (hm : ∀ u, (wf u).map (·.1) = ws.map (·.1)) (cw : CallW R s args own q.1 index y bytes maxL ret wm rm 0 0 n) (he : ws[0]? = some (b, .inr (ci, fs))) (hc : vwCl[ci]? = some q) (hn : As.length = n) (hl : ls.size = nL) (hst : st0 = As.reverse ++ .ref b :: rest) (hW : (rest.map fun v => v.category).sum ≤ 8) (hdg : decode cc pc = .ok (.invokevirtual index, 3)) (hf : cells ≤ R.cells ∧ slots ≤ R.slots)
    (kk : ∀ (u : σ) (H1 : Heap) (locs1 : List Loc), post u → va_P D vwCl (wf u) H1 → va_D A (wf u) → va_S A H0 H1 locs1 → (∀ q : Nat, q < H.size → ¬ px_B ws q → H1[q]? = H[q]?) → W p l e R s m args below meth c H1 locs1 cells slots Q (F0 m (pc + 3) ls rest)) : W p l e R s m args below meth c H locs cells slots Q (F0 m pc ls st0) := by
  refine va_callv (va_runV (b := b) (As := As) (rest := rest) (g := F0 m pc ls st0) S hM cw ⟨fun a U g mk z => ⟨z.1, z.2.1, va_K.moved (u := U) (U := U.calling g mk a) (Vm.Alike.refl U.vm) z.2.2.1, z.2.2.2⟩, va_recv hK hP hc he, fun U hU hW => ⟨rfl, by rw [hU]; exact hP, va_K.moved hW.alike hK, px_Dself hD⟩⟩ rfl hn hl hst (lv_room hW) hdg hf) hS (fun q _ h => px_BA hD q h) (px_BA hD) ?_
  intro u t H1 locs1 ht hvm hw hB hz hk hS1
  exact kk u H1 locs1 hw (by rw [← ht]; exact hB) (px_Dm hD (hm u)) hS1 hk
theorem px_wi {σ : Type} {post : Int32 → σ → Prop} {wf : σ → va_W} (S : CallFix p m c cc nL s args Ts own) (hP : va_P D vwCl ws H) (hK : va_K D vwCl tys s) (hD : va_D A ws) (hS : va_S A H0 H locs) (hM : WrI l y wm rm D tys (.ref b :: As) ws post wf) (hm : ∀ u, (wf u).map (·.1) = ws.map (·.1)) (cw : CallW R s args own q.1 index y bytes maxL ret wm rm 0 0 n) (he : ws[0]? = some (b, .inr (ci, fs))) (hc : vwCl[ci]? = some q) (hn : As.length = n) (hl : ls.size = nL) (hst : st0 = As.reverse ++ .ref b :: rest) (hW : (rest.map fun v => v.category).sum ≤ 8) (hdg : decode cc pc = .ok (.invokevirtual index, 3)) (hf : cells ≤ R.cells ∧ slots ≤ R.slots)
    (kk : ∀ (r : Int32) (u : σ) (H1 : Heap) (locs1 : List Loc), post r u → va_P D vwCl (wf u) H1 → va_D A (wf u) → va_S A H0 H1 locs1 → (∀ q : Nat, q < H.size → ¬ px_B ws q → H1[q]? = H[q]?) → W p l e R s m args below meth c H1 locs1 cells slots Q (F0 m (pc + 3) ls (.int r :: rest))) : W p l e R s m args below meth c H locs cells slots Q (F0 m pc ls st0) := by
  refine va_calli (va_runV (b := b) (As := As) (rest := rest) (g := F0 m pc ls st0) S hM cw ⟨fun a U g mk z => ⟨z.1, z.2.1, va_K.moved (u := U) (U := U.calling g mk a) (Vm.Alike.refl U.vm) z.2.2.1, z.2.2.2⟩, va_recv hK hP hc he, fun U hU hW => ⟨rfl, by rw [hU]; exact hP, va_K.moved hW.alike hK, px_Dself hD⟩⟩ rfl hn hl hst (lv_room hW) hdg hf) hS (fun q _ h => px_BA hD q h) (px_BA hD) ?_
  intro r u t H1 locs1 ht hvm hw hB hz hk hS1
  exact kk r u H1 locs1 hw (by rw [← ht]; exact hB) (px_Dm hD (hm u)) hS1 hk
/-- ends of methods that only read -/
theorem px_ri (hx : p.tables.exec = Jvm.exec) (hb : c.code = cc) (hr : meth.sig.returnType = some .int) (hlk : meth.locks = false) {w : Int32} (hv : w = v) (hdg : decode cc pc = .ok (.ireturn, 1)) : W p l e R s m args below meth c s.heap [] 0 0 (MQ below (vp_Si (fun r => r = v)) args s 0 0 (fun _ => False)) (F0 m pc ls [.int w]) :=
  W.iret hx hb hr (fun t ht _ => ⟨w, rfl, hv, ht⟩) (fun _ h => by cases h) hdg
theorem px_rz (hx : p.tables.exec = Jvm.exec) (hb : c.code = cc) (hr : meth.sig.returnType = some .boolean) (hlk : meth.locks = false) {w : Bool} (hv : px_b w = v) (hdg : decode cc pc = .ok (.ireturn, 1)) : W p l e R s m args below meth c s.heap [] 0 0 (MQ below (vp_Si (fun r => r = v)) args s 0 0 (fun _ => False)) (F0 m pc ls [.int (px_b w)]) :=
  W.zret hx hb hr (px_b_nar w) (fun t ht _ => ⟨px_b w, rfl, hv, ht⟩) (fun _ h => by cases h) hdg
theorem px_rl (hx : p.tables.exec = Jvm.exec) (hb : c.code = cc) (hr : meth.sig.returnType = some .long) (hlk : meth.locks = false) {w v : Int64} (hv : w = v) (hdg : decode cc pc = .ok (.lreturn, 1)) : W p l e R s m args below meth c s.heap [] 0 0 (MQ below (vp_Sl (fun r => r = v)) args s 0 0 (fun _ => False)) (F0 m pc ls [.long w]) :=
  W.lret hx hb hr (fun t ht _ => ⟨w, rfl, hv, ht⟩) (fun _ h => by cases h) hdg
/-- ends of methods that write in their own cells -/
theorem px_ev {σ : Type} {post : σ → Prop} {wf : σ → va_W} (hx : p.tables.exec = Jvm.exec) (hb : c.code = cc) (hr : meth.sig.returnType = none) (hlk : meth.locks = false) (hS : va_S A s.heap H locs) (u : σ) (hp : post u) (hP : va_P D vwCl (wf u) H) (hdg : decode cc pc = .ok (.return_, 1)) : W p l e R s m args below meth c H locs cells slots (MQ below (va_Qv post (fun u t => va_P D vwCl (wf u) t.heap) A) args s cells slots A) (F0 m pc ls []) :=
  W.vret hx hb hr (fun t ht _ => ⟨⟨u, rfl, hp, (by rw [ht]; exact hP : va_P D vwCl (wf u) t.heap)⟩, hS.F ht⟩) hS.2.2 hdg
theorem px_ei {σ : Type} {post : Int32 → σ → Prop} {wf : σ → va_W} (hx : p.tables.exec = Jvm.exec) (hb : c.code = cc) (hr : meth.sig.returnType = some .int) (hlk : meth.locks = false) (hS : va_S A s.heap H locs) {w : Int32} (u : σ) (hp : post w u) (hP : va_P D vwCl (wf u) H) (hdg : decode cc pc = .ok (.ireturn, 1)) : W p l e R s m args below meth c H locs cells slots (MQ below (va_Qi post (fun u t => va_P D vwCl (wf u) t.heap) A) args s cells slots A) (F0 m pc ls [.int w]) :=
  W.iret hx hb hr (fun t ht _ => ⟨⟨w, u, rfl, hp, (by rw [ht]; exact hP : va_P D vwCl (wf u) t.heap)⟩, hS.F ht⟩) hS.2.2 hdg
theorem px_ez {σ : Type} {post : Int32 → σ → Prop} {wf : σ → va_W} (hx : p.tables.exec = Jvm.exec) (hb : c.code = cc) (hr : meth.sig.returnType = some .boolean) (hlk : meth.locks = false) (hS : va_S A s.heap H locs) {w : Bool} (u : σ) (hp : post (px_b w) u) (hP : va_P D vwCl (wf u) H) (hdg : decode cc pc = .ok (.ireturn, 1)) : W p l e R s m args below meth c H locs cells slots (MQ below (va_Qi post (fun u t => va_P D vwCl (wf u) t.heap) A) args s cells slots A) (F0 m pc ls [.int (px_b w)]) :=
  W.zret hx hb hr (px_b_nar w) (fun t ht _ => ⟨⟨px_b w, u, rfl, hp, (by rw [ht]; exact hP : va_P D vwCl (wf u) t.heap)⟩, hS.F ht⟩) hS.2.2 hdg
end PY
/-! the two worlds -/
abbrev tyq (cI cJ cZ : ClassId) : List (ClassId × FieldType) := [(cI, .int), (cJ, .long), (cZ, .boolean)]
abbrev w0 (cI cJ cZ : ClassId) (ad : Nat → Nat) (pt co gv : Int32) (E : Nat → Int64) (G C Wi O IO NI CF : Nat → Int32) : va_W :=
  [(ad 0, .inr (0, [.int pt, .int co, .int gv, .ref (ad 1), .ref (ad 2), .ref (ad 3), .ref (ad 4), .ref (ad 5), .ref (ad 6), .ref (ad 7), .ref (ad 8)])), (ad 1, .inl (cJ, 800, .inr (.inl E))), (ad 2, .inl (cI, 200, .inl G)), (ad 3, .inl (cI, 200, .inl C)), (ad 4, .inl (cI, 200, .inl Wi)), (ad 5, .inl (cI, 200, .inl O)), (ad 6, .inl (cZ, 200, .inl IO)), (ad 7, .inl (cI, 200, .inl NI)), (ad 8, .inl (cI, 200, .inl CF))]
abbrev w1 (cI cZ : ClassId) (bd : Nat → Nat) (n k gv : Int32) (PA C Wi CO RW IN : Nat → Int32) : va_W :=
  [(bd 0, .inr (1, [.ref (bd 1), .ref (bd 2), .ref (bd 3), .ref (bd 4), .ref (bd 5), .ref (bd 6), .int n, .int k, .int gv])), (bd 1, .inl (cZ, 40000, .inl PA)), (bd 2, .inl (cI, 200, .inl C)), (bd 3, .inl (cI, 200, .inl Wi)), (bd 4, .inl (cI, 200, .inl CO)), (bd 5, .inl (cI, 200, .inl RW)), (bd 6, .inl (cZ, 200, .inl IN))]
/-- a world may be told by other functions that are the same within the lengths -/
theorem px_at {D : va_G} {cl : List vw_C} {ws ws' : va_W} {H : Heap} (h : va_P D cl ws H) (hc : ∀ (k : Nat) (q' : Nat × va_E), ws'[k]? = some q' → ∃ q : Nat × va_E, ws[k]? = some q ∧ (va_at D cl q H → va_at D cl q' H)) : va_P D cl ws' H := fun k q' hq => by
  obtain ⟨q, h1, h2⟩ := hc k q' hq
  exact h2 (h k q h1)
theorem px_cell {cA : ClassId} {n : Nat} {f g : Nat → Int32} (h : ∀ j, j < n → f j = g j) : vp_cell cA (n, .inl f) = vp_cell cA (n, .inl g) := by
  rw [vp_cell_i, vp_cell_i]
  unfold arrV
  congr 1
  apply Array.ext (by simp)
  intro i h1 h2
  simp at h1
  simp [h i h1]
theorem px_cellL {cA : ClassId} {n : Nat} {f g : Nat → Int64} (h : ∀ j, j < n → f j = g j) : vp_cell cA (n, .inr (.inl f)) = vp_cell cA (n, .inr (.inl g)) := by
  rw [vp_cell_l, vp_cell_l]
  unfold arrV
  congr 1
  apply Array.ext (by simp)
  intro i h1 h2
  simp at h1
  simp [h i h1]
end
section
/-! numbers and bits -/
theorem px_inc1 (i : Nat) : nI i + Int32.ofInt 1 = nI (i + 1) := nI_1 i
theorem px_inc3 (i : Nat) : nI i + Int32.ofInt 3 = nI (i + 3) := nI_add i 3
theorem px_dec (i : Nat) : nI i + Int32.ofInt (-1) = nI i - 1 := by
  rw [show Int32.ofInt (-1) = -1 from by decide +kernel, Int32.sub_eq_add_neg]
def pm_pt (n : Nat) (a : Int32) : Bool := decide (0 ≤ a.toInt ∧ a.toInt < n)
theorem pm_pt_f1 {n : Nat} {a : Int32} (h : a < 0) : pm_pt n a = false := by
  have h1 : a.toInt < 0 := Int32.lt_iff_toInt_lt.mp h
  simp [pm_pt]; omega
theorem pm_pt_f2 {n : Nat} {a : Int32} (hn : n < 2 ^ 31) (h : nI n ≤ a) : pm_pt n a = false := by
  have h1 : (nI n).toInt ≤ a.toInt := Int32.le_iff_toInt_le.mp h
  rw [nI_toInt hn] at h1
  simp [pm_pt]; omega
theorem pm_pt_t {n : Nat} {a : Int32} (hn : n < 2 ^ 31) (h0 : ¬ a < 0) (h : ¬ nI n ≤ a) : pm_pt n a = true := by
  have h2 : ¬ a.toInt < 0 := fun q => h0 (Int32.lt_iff_toInt_lt.mpr q)
  have h1 : ¬ (nI n).toInt ≤ a.toInt := fun q => h (Int32.le_iff_toInt_le.mpr q)
  rw [nI_toInt hn] at h1
  simp [pm_pt]; omega
theorem pm_pt_of {n : Nat} {a : Int32} (hn : n < 2 ^ 31) (h : pm_pt n a = true) : ∃ j, j < n ∧ a = nI j := by
  simp [pm_pt] at h
  exact vp_in_of (vp_in_iff.mpr h) hn
theorem pm_pt_nI {n j : Nat} (hj : j < 2 ^ 31) : pm_pt n (nI j) = decide (j < n) := by
  simp [pm_pt, nI_toInt hj]
def pm_bit (b : Nat) : Int64 := 1 <<< ((nI (b % 64)).toInt64 &&& 63)
theorem pm_bit_bv0 : ∀ j, j < 64 → ((1 : Int64) <<< ((nI j).toInt64 &&& 63)).toBitVec = BitVec.twoPow 64 j := by decide +kernel
theorem pm_bit_bv (b : Nat) : (pm_bit b).toBitVec = BitVec.twoPow 64 (b % 64) := pm_bit_bv0 _ (Nat.mod_lt _ (by decide))
def pm_ed (E : Nat → Int64) (a b : Nat) : Bool := (E (a * 4 + b / 64)).toBitVec.getLsbD (b % 64)
theorem pm_bit_and (x : Int64) (b : Nat) : x &&& pm_bit b = 0 ↔ x.toBitVec.getLsbD (b % 64) = false := by
  rw [← Int64.toBitVec_inj, Int64.toBitVec_and, pm_bit_bv, BitVec.and_twoPow]
  by_cases h : x.toBitVec.getLsbD (b % 64) = true
  · rw [if_pos h, h]
    constructor
    · intro q
      have := congrArg (fun v : BitVec 64 => v.getLsbD (b % 64)) q
      simp [BitVec.getLsbD_twoPow] at this
      omega
    · intro q; cases q
  · rw [if_neg h]
    simp at h
    simp [h]
theorem pm_bit_or (x : Int64) (a b : Nat) : (x ||| pm_bit b).toBitVec.getLsbD (a % 64) = (x.toBitVec.getLsbD (a % 64) || decide (a % 64 = b % 64)) := by
  rw [Int64.toBitVec_or, pm_bit_bv, BitVec.getLsbD_or, BitVec.getLsbD_twoPow]
  have h1 : b % 64 < 64 := Nat.mod_lt _ (by decide)
  by_cases h : a % 64 = b % 64
  · rw [h]; simp [h1]
  · simp [h, Ne.symm h]
def pm_b32 (j : Nat) : Int32 := 1 <<< (nI j &&& 31)
theorem pm_b32_bv : ∀ j, j < 32 → (pm_b32 j).toBitVec = BitVec.twoPow 32 j := by decide +kernel
theorem pm_b32_and (x : Int32) {j : Nat} (hj : j < 32) : x &&& pm_b32 j = 0 ↔ x.toBitVec.getLsbD j = false := by
  rw [← Int32.toBitVec_inj, Int32.toBitVec_and, pm_b32_bv j hj, BitVec.and_twoPow]
  by_cases h : x.toBitVec.getLsbD j = true
  · rw [if_pos h, h]
    constructor
    · intro q
      have := congrArg (fun v : BitVec 32 => v.getLsbD j) q
      simp [BitVec.getLsbD_twoPow] at this
      omega
    · intro q; cases q
  · rw [if_neg h]
    simp at h
    simp [h]
theorem pm_b32_or (x : Int32) {i j : Nat} (hj : j < 32) : (x ||| pm_b32 j).toBitVec.getLsbD i = (x.toBitVec.getLsbD i || decide (j = i)) := by
  rw [Int32.toBitVec_or, pm_b32_bv j hj, BitVec.getLsbD_or, BitVec.getLsbD_twoPow]
  by_cases h : j = i
  · subst h; simp [hj]
  · simp [h]
/-! counting, the first, the best -/
def pm_cn (f : Nat → Bool) : Nat → Nat
  | 0 => 0
  | i + 1 => pm_cn f i + (if f i = true then 1 else 0)
def pm_ft (f : Nat → Bool) : Nat → Option Nat
  | 0 => none
  | i + 1 => match pm_ft f i with
    | some a => some a
    | none => if f i = true then some i else none
def pm_sm (f : Nat → Nat) : Nat → Nat
  | 0 => 0
  | i + 1 => pm_sm f i + f i
def pm_o (x : Option Nat) : Int32 := match x with
  | none => -1
  | some a => nI a
/-- neighbours still in -/
def pm_lf (J : Nat → Nat → Bool) (n : Nat) (inn : Nat → Bool) (a : Nat) : Nat := pm_cn (fun b => inn b && J a b) n
/-- the cheapest of those below i -/
def pm_bs (J : Nat → Nat → Bool) (n : Nat) (cst : Nat → Nat) (inn : Nat → Bool) : Nat → Option Nat
  | 0 => none
  | i + 1 => if inn i = true then (match pm_bs J n cst inn i with
      | none => some i
      | some b => if cst i * pm_lf J n inn b < cst b * pm_lf J n inn i then some i else some b) else pm_bs J n cst inn i
def pm_lo (J : Nat → Nat → Bool) (n k : Nat) (inn : Nat → Bool) (a : Nat) : Bool := inn a && decide (pm_lf J n inn a < k)
/-- the next one to be taken out -/
def pm_nx (J : Nat → Nat → Bool) (n k : Nat) (cst : Nat → Nat) (inn : Nat → Bool) : Option Nat := match pm_ft (pm_lo J n k inn) n with
  | some a => some a
  | none => pm_bs J n cst inn n
/-- who is still in before the i-th is taken out -/
def pm_in (J : Nat → Nat → Bool) (n k : Nat) (cst : Nat → Nat) : Nat → Nat → Bool
  | 0 => fun _ => true
  | i + 1 => fun a => pm_in J n k cst i a && !decide (pm_nx J n k cst (pm_in J n k cst i) = some a)
def pm_od (J : Nat → Nat → Bool) (n k : Nat) (cst : Nat → Nat) (i : Nat) : Nat := (pm_nx J n k cst (pm_in J n k cst i)).getD 0
/-- no neighbour below i has the colour c -/
def pm_fr (J : Nat → Nat → Bool) (col : Nat → Int32) (a : Nat) (c : Int32) : Nat → Bool
  | 0 => true
  | i + 1 => pm_fr J col a c i && !(J a i && decide (col i = c))
def pm_ch (J : Nat → Nat → Bool) (n k : Nat) (ws : Nat → Nat) (col : Nat → Int32) (a : Nat) : Int32 :=
  if ws a ≠ a ∧ ¬ col (ws a) < 0 ∧ pm_fr J col a (col (ws a)) n = true then col (ws a) else pm_o (pm_ft (fun c => pm_fr J col a (nI c) n) k)
/-- the colours when t points have come back -/
def pm_cs (J : Nat → Nat → Bool) (n k : Nat) (cst ws : Nat → Nat) : Nat → Nat → Int32
  | 0 => fun _ => -1
  | t + 1 => upd (pm_cs J n k cst ws t) (pm_od J n k cst (n - 1 - t)) (pm_ch J n k ws (pm_cs J n k cst ws t) (pm_od J n k cst (n - 1 - t)))
/-- how many of the first t that came back got none -/
def pm_nn (J : Nat → Nat → Bool) (n k : Nat) (cst ws : Nat → Nat) (t : Nat) : Nat := pm_cn (fun u => decide (pm_ch J n k ws (pm_cs J n k cst ws u) (pm_od J n k cst (n - 1 - u)) < 0)) t
def pm_sy (J : Nat → Nat → Bool) (col : Nat → Int32) (a b : Nat) : Bool := decide (a < b) && (J a b && (!decide (col a = -1) && decide (col a = col b)))
def pm_st (J : Nat → Nat → Bool) (col : Nat → Int32) (n : Nat) : Nat := pm_sm (fun a => pm_cn (pm_sy J col a) n) n
end
section
section PX2
variable {p : Program} {l : Launch} {e : Env} {R : Room} {s : State} {m : MethodId} {args : Array Value} {below : List Frame} {meth : Method} {c : Code} {H : Heap} {locs : List Loc} {cells slots : Nat} {Q : State → Prop}
variable {cc : ByteArray} {pc : Nat} {ls : Array Slot} {rest : List Value}
theorem px_lt (hx : p.tables.exec = Jvm.exec) (hb : c.code = cc) {a b : Nat} {off : Int} {tgt : Nat} (hdg : decode cc pc = .ok (.if_icmp .lt off, 3)) (ht : (pc : Int) + off = (tgt : Int)) (ha : a < 2 ^ 31) (hc : b < 2 ^ 31)
    (kt : a < b → W p l e R s m args below meth c H locs cells slots Q (F0 m tgt ls rest)) (kf : b ≤ a → W p l e R s m args below meth c H locs cells slots Q (F0 m (pc + 3) ls rest)) : W p l e R s m args below meth c H locs cells slots Q (F0 m pc ls (.int (nI b) :: .int (nI a) :: rest)) :=
  lv_icmp_lt hx hb hdg ht (fun h => kt ((nI_ltI ha hc).mp h)) (fun h => kf (Nat.le_of_not_lt fun q => h ((nI_ltI ha hc).mpr q)))
theorem px_le (hx : p.tables.exec = Jvm.exec) (hb : c.code = cc) {a b : Nat} {off : Int} {tgt : Nat} (hdg : decode cc pc = .ok (.if_icmp .le off, 3)) (ht : (pc : Int) + off = (tgt : Int)) (ha : a < 2 ^ 31) (hc : b < 2 ^ 31)
    (kt : a ≤ b → W p l e R s m args below meth c H locs cells slots Q (F0 m tgt ls rest)) (kf : b < a → W p l e R s m args below meth c H locs cells slots Q (F0 m (pc + 3) ls rest)) : W p l e R s m args below meth c H locs cells slots Q (F0 m pc ls (.int (nI b) :: .int (nI a) :: rest)) :=
  lv_icmp_le hx hb hdg ht (fun h => kt ((nI_leI ha hc).mp h)) (fun h => kf (Nat.lt_of_not_le fun q => h ((nI_leI ha hc).mpr q)))
theorem px_eq (hx : p.tables.exec = Jvm.exec) (hb : c.code = cc) {a b : Nat} {off : Int} {tgt : Nat} (hdg : decode cc pc = .ok (.if_icmp .eq off, 3)) (ht : (pc : Int) + off = (tgt : Int)) (ha : a < 2 ^ 31) (hc : b < 2 ^ 31)
    (kt : a = b → W p l e R s m args below meth c H locs cells slots Q (F0 m tgt ls rest)) (kf : a ≠ b → W p l e R s m args below meth c H locs cells slots Q (F0 m (pc + 3) ls rest)) : W p l e R s m args below meth c H locs cells slots Q (F0 m pc ls (.int (nI b) :: .int (nI a) :: rest)) :=
  lv_icmp_eq hx hb hdg ht (fun h => kt ((nI_eq ha hc).mp h)) (fun h => kf fun q => h ((nI_eq ha hc).mpr q))
theorem px_ne (hx : p.tables.exec = Jvm.exec) (hb : c.code = cc) {a b : Nat} {off : Int} {tgt : Nat} (hdg : decode cc pc = .ok (.if_icmp .ne off, 3)) (ht : (pc : Int) + off = (tgt : Int)) (ha : a < 2 ^ 31) (hc : b < 2 ^ 31)
    (kt : a ≠ b → W p l e R s m args below meth c H locs cells slots Q (F0 m tgt ls rest)) (kf : a = b → W p l e R s m args below meth c H locs cells slots Q (F0 m (pc + 3) ls rest)) : W p l e R s m args below meth c H locs cells slots Q (F0 m pc ls (.int (nI b) :: .int (nI a) :: rest)) :=
  lv_icmp_ne hx hb hdg ht (fun h => kt fun q => h ((nI_eq ha hc).mpr q)) (fun h => kf (by
    by_cases q : nI a = nI b
    · exact (nI_eq ha hc).mp q
    · first | exact absurd q h | exact (nI_eq ha hc).mp h))
theorem px_top {x y : Int32} (h : x = y) (k : W p l e R s m args below meth c H locs cells slots Q (F0 m pc ls (.int y :: rest))) : W p l e R s m args below meth c H locs cells slots Q (F0 m pc ls (.int x :: rest)) := h ▸ k
theorem px_topl {x y : Int64} (h : x = y) (k : W p l e R s m args below meth c H locs cells slots Q (F0 m pc ls (.long y :: rest))) : W p l e R s m args below meth c H locs cells slots Q (F0 m pc ls (.long x :: rest)) := h ▸ k
end PX2
theorem pm_m1 {j : Nat} (hj : j < 2 ^ 31) : ¬ nI j = -1 := fun h => by
  have h1 := congrArg Int32.toInt h
  rw [nI_toInt hj] at h1
  have h2 : (-1 : Int32).toInt = -1 := by decide +kernel
  rw [h2] at h1
  omega
theorem pm_ft_none {f : Nat → Bool} {i : Nat} (h : pm_ft f i = none) (hf : f i = false) : pm_ft f (i + 1) = none := by simp [pm_ft, h, hf]
theorem pm_ft_here {f : Nat → Bool} {i n : Nat} (h : pm_ft f i = none) (hf : f i = true) (hn : i < n) : pm_ft f n = some i := by
  obtain ⟨d, rfl⟩ : ∃ d, n = i + 1 + d := ⟨n - (i + 1), by omega⟩
  induction d with
  | zero => simp [pm_ft, h, hf]
  | succ d ih => rw [show i + 1 + (d + 1) = (i + 1 + d) + 1 from rfl, pm_ft, ih (by omega)]
theorem pm_ft_lt {f : Nat → Bool} {n a : Nat} (h : pm_ft f n = some a) : a < n ∧ f a = true := by
  induction n with
  | zero => simp [pm_ft] at h
  | succ n ih =>
    rw [pm_ft] at h
    cases h1 : pm_ft f n with
    | some b =>
      rw [h1] at h
      obtain rfl := Option.some.inj h
      exact ⟨by have := (ih h1).1; omega, (ih h1).2⟩
    | none =>
      rw [h1] at h
      by_cases hf : f n = true
      · simp [hf] at h; subst h; exact ⟨by omega, hf⟩
      · simp [hf] at h
theorem pm_cn_le (f : Nat → Bool) (n : Nat) : pm_cn f n ≤ n := by
  induction n with
  | zero => simp [pm_cn]
  | succ n ih => rw [pm_cn]; split <;> omega
theorem pm_cn_1 {f : Nat → Bool} {i : Nat} (h : f i = true) : pm_cn f (i + 1) = pm_cn f i + 1 := by simp [pm_cn, h]
theorem pm_cn_0 {f : Nat → Bool} {i : Nat} (h : f i = false) : pm_cn f (i + 1) = pm_cn f i := by simp [pm_cn, h]
theorem pm_lf_le (J : Nat → Nat → Bool) (n : Nat) (inn : Nat → Bool) (a : Nat) : pm_lf J n inn a ≤ n := pm_cn_le _ n
theorem pm_bs_lt {J : Nat → Nat → Bool} {n : Nat} {cst : Nat → Nat} {inn : Nat → Bool} {i b : Nat} (h : pm_bs J n cst inn i = some b) : b < i ∧ inn b = true := by
  induction i with
  | zero => simp [pm_bs] at h
  | succ i ih =>
    rw [pm_bs] at h
    by_cases hi : inn i = true
    · rw [if_pos hi] at h
      cases h1 : pm_bs J n cst inn i with
      | none => rw [h1] at h; obtain rfl := Option.some.inj h; exact ⟨by omega, hi⟩
      | some d =>
        rw [h1] at h
        by_cases hc : cst i * pm_lf J n inn d < cst d * pm_lf J n inn i
        · simp only [hc, if_true] at h; obtain rfl := Option.some.inj h; exact ⟨by omega, hi⟩
        · simp only [hc, if_false] at h; obtain rfl := Option.some.inj h; exact ⟨by have := (ih h1).1; omega, (ih h1).2⟩
    · rw [if_neg hi] at h
      exact ⟨by have := (ih h).1; omega, (ih h).2⟩
theorem pm_chp {a b c d : Nat} (ha : a ≤ 1000000) (hb : b ≤ 200) (hc : c ≤ 1000000) (hd : d ≤ 200) : 0 ≤ lg_cmp ((nI a).toInt64 * (nI b).toInt64) ((nI c).toInt64 * (nI d).toInt64) ↔ c * d ≤ a * b := by
  have h1 : a * b ≤ 1000000 * 200 := Nat.mul_le_mul ha hb
  have h2 : c * d ≤ 1000000 * 200 := Nat.mul_le_mul hc hd
  rw [nI_l (by omega), nI_l (by omega), nI_l (by omega), nI_l (by omega), lN_mul, lN_mul, lg_cmp_ge, pk_lLE (by omega) (by omega)]
def pm_mk (J : Nat → Nat → Bool) (col : Nat → Int32) (a : Nat) : Nat → Int32
  | 0 => 0
  | i + 1 => if col i = -1 then pm_mk J col a i else if J a i = true then pm_mk J col a i ||| ((1 : Int32) <<< (col i &&& 31)) else pm_mk J col a i
def pm_ok (k : Nat) (x : Int32) : Prop := x = -1 ∨ ∃ c, c < k ∧ x = nI c
theorem pm_mk_bit {J : Nat → Nat → Bool} {col : Nat → Int32} {a k c : Nat} (hk : k ≤ 30) (hc : c < 32) : ∀ i, (∀ b, b < i → pm_ok k (col b)) → (pm_mk J col a i).toBitVec.getLsbD c = !pm_fr J col a (nI c) i := by
  intro i
  induction i with
  | zero => intro _; simp [pm_mk, pm_fr]
  | succ i ih =>
    intro hok
    have ih := ih (fun b hb => hok b (by omega))
    rw [pm_mk, pm_fr]
    rcases hok i (by omega) with h | ⟨d, hd, h⟩
    · rw [if_pos h, ih, h]
      have : ¬ (-1 : Int32) = nI c := fun q => pm_m1 (j := c) (by omega) q.symm
      simp [this]
    · have h1 : ¬ col i = -1 := by rw [h]; exact pm_m1 (by omega)
      rw [if_neg h1]
      by_cases hJ : J a i = true
      · rw [if_pos hJ, h]
        have := pm_b32_or (pm_mk J col a i) (i := c) (j := d) (by omega)
        rw [show (1 : Int32) <<< (nI d &&& 31) = pm_b32 d from rfl, this, ih, hJ]
        have e : (nI d = nI c) ↔ d = c := nI_eq (by omega) (by omega)
        by_cases q : d = c <;> simp [e, q]
      · rw [if_neg hJ, ih]
        simp at hJ
        simp [hJ]
def pm_rd (g : Bool) (n : Nat) (F : Nat → Int32) (a : Int32) : Int32 := if (g && pm_pt n a) = true then F a.toNatClampNeg else -1
theorem pm_rd_g {n : Nat} {F : Nat → Int32} {a : Int32} : pm_rd false n F a = -1 := by simp [pm_rd]
theorem pm_rd_n {g : Bool} {n : Nat} {F : Nat → Int32} {a : Int32} (h : pm_pt n a = false) : pm_rd g n F a = -1 := by simp [pm_rd, h]
theorem pm_rd_t {n j : Nat} {F : Nat → Int32} (hn : n < 2 ^ 31) (hj : j < n) : pm_rd true n F (nI j) = F j := by
  have h1 : j < 2 ^ 31 := by omega
  simp [pm_rd, pm_pt_nI h1, hj, nI_clamp h1]
end
section
set_option maxHeartbeats 4000000 in
set_option maxRecDepth 100000 in
theorem tX0_isPoint {l : Launch} {D : va_G} {cI cJ cZ : ClassId} {ad : Nat → Nat} {n k : Nat} {gv : Int32} {E : Nat → Int64} {G C Wi O IO NI CF : Nat → Int32} (hn : n < 2 ^ 31) (a : Int32) : RdI l yX0_isPoint wsX0_isPoint (rmd 0) D (tyq cI cJ cZ) [.ref (ad 0), .int a] (w0 cI cJ cZ ad (nI n) (nI k) gv E G C Wi O IO NI CF) (px_b (pm_pt n a)) := by
  refine px_met (cc := cX0_isPoint) (maxL := 2) (ret := (some .boolean)) (lv := [(0, .ref (ad 0)), (1, .int a)]) (by decide +kernel) rfl (Nat.le_of_ble_eq_true rfl) rfl ?_
  intro p e s m below meth c ls S hr hlk hnm hv hl
  obtain ⟨hx, hb, hml, hown, hts⟩ := id S
  obtain ⟨hP, hK⟩ := hv
  have hin : ∀ w ∈ wsX00, w ∈ wsX0_isPoint := fun w h => List.mem_cons_of_mem _ (List.mem_append_right _ h)
  have f66 := hts (.fieldLink RX0 66 "PointColours" "points" "I") (by decide +kernel)
  refine lv_iload_n hx hb dX0_isPoint_0 rfl (lv_at hl 1 rfl) ?_
  refine lv_if_lt (tgt := 16) hx hb dX0_isPoint_1 (by decide) (fun h1 => ?_) (fun h1 => ?_)
  · refine lv_iconst (v := px_b false) hx hb dX0_isPoint_16 (by decide +kernel) ?_
    exact px_rz hx hb hr hlk (by first | rw [pm_pt_f1 h1] | rw [pm_pt_f2 hn h9] | rw [pm_pt_t hn h1 h9]) dX0_isPoint_17
  · refine lv_iload_n hx hb dX0_isPoint_4 rfl (lv_at hl 1 rfl) ?_
    refine lv_aload_n hx hb dX0_isPoint_5 rfl (lv_at hl 0 rfl) ?_
    refine va_get (D := D) (ci := 0) (v := .int (nI n)) (C := RX0) (T := TX0) (N := 11) hx hb hts hin hown hK hP 0 rfl rfl 0 (by decide) f66 (fun _ h9 => h9) rfl dX0_isPoint_6 ?_
    refine lv_icmp_ge (tgt := 16) hx hb dX0_isPoint_9 (by decide) (fun h9 => ?_) (fun h9 => ?_)
    · refine lv_iconst (v := px_b false) hx hb dX0_isPoint_16 (by decide +kernel) ?_
      exact px_rz hx hb hr hlk (by first | rw [pm_pt_f1 h1] | rw [pm_pt_f2 hn h9] | rw [pm_pt_t hn h1 h9]) dX0_isPoint_17
    · refine lv_iconst (v := px_b true) hx hb dX0_isPoint_12 (by decide +kernel) ?_
      refine lv_goto (tgt := 17) hx hb dX0_isPoint_13 (by decide) ?_
      exact px_rz hx hb hr hlk (by first | rw [pm_pt_f1 h1] | rw [pm_pt_f2 hn h9] | rw [pm_pt_t hn h1 h9]) dX0_isPoint_17
set_option maxHeartbeats 4000000 in
set_option maxRecDepth 100000 in
theorem tX1_isPoint {l : Launch} {D : va_G} {cI cJ cZ : ClassId} {bd : Nat → Nat} {n k : Nat} {gv : Int32} {PA C Wi CO RW IN : Nat → Int32} (hn : n < 2 ^ 31) (a : Int32) : RdI l yX1_isPoint wsX1_isPoint (rmd 0) D (tyq cI cJ cZ) [.ref (bd 0), .int a] (w1 cI cZ bd (nI n) (nI k) gv PA C Wi CO RW IN) (px_b (pm_pt n a)) := by
  refine px_met (cc := cX1_isPoint) (maxL := 2) (ret := (some .boolean)) (lv := [(0, .ref (bd 0)), (1, .int a)]) (by decide +kernel) rfl (Nat.le_of_ble_eq_true rfl) rfl ?_
  intro p e s m below meth c ls S hr hlk hnm hv hl
  obtain ⟨hx, hb, hml, hown, hts⟩ := id S
  obtain ⟨hP, hK⟩ := hv
  have hin : ∀ w ∈ wsX10, w ∈ wsX1_isPoint := fun w h => List.mem_cons_of_mem _ (List.mem_append_right _ h)
  have f34 := hts (.fieldLink RX1 34 "PointColoursModel" "n" "I") (by decide +kernel)
  refine lv_iload_n hx hb dX1_isPoint_0 rfl (lv_at hl 1 rfl) ?_
  refine lv_if_lt (tgt := 16) hx hb dX1_isPoint_1 (by decide) (fun h1 => ?_) (fun h1 => ?_)
  · refine lv_iconst (v := px_b false) hx hb dX1_isPoint_16 (by decide +kernel) ?_
    exact px_rz hx hb hr hlk (by first | rw [pm_pt_f1 h1] | rw [pm_pt_f2 hn h9] | rw [pm_pt_t hn h1 h9]) dX1_isPoint_17
  · refine lv_iload_n hx hb dX1_isPoint_4 rfl (lv_at hl 1 rfl) ?_
    refine lv_aload_n hx hb dX1_isPoint_5 rfl (lv_at hl 0 rfl) ?_
    refine va_get (D := D) (ci := 1) (v := .int (nI n)) (C := RX1) (T := TX1) (N := 9) hx hb hts hin hown hK hP 0 rfl rfl 6 (by decide) f34 (fun _ h9 => h9) rfl dX1_isPoint_6 ?_
    refine lv_icmp_ge (tgt := 16) hx hb dX1_isPoint_9 (by decide) (fun h9 => ?_) (fun h9 => ?_)
    · refine lv_iconst (v := px_b false) hx hb dX1_isPoint_16 (by decide +kernel) ?_
      exact px_rz hx hb hr hlk (by first | rw [pm_pt_f1 h1] | rw [pm_pt_f2 hn h9] | rw [pm_pt_t hn h1 h9]) dX1_isPoint_17
    · refine lv_iconst (v := px_b true) hx hb dX1_isPoint_12 (by decide +kernel) ?_
      refine lv_goto (tgt := 17) hx hb dX1_isPoint_13 (by decide) ?_
      exact px_rz hx hb hr hlk (by first | rw [pm_pt_f1 h1] | rw [pm_pt_f2 hn h9] | rw [pm_pt_t hn h1 h9]) dX1_isPoint_17
set_option maxHeartbeats 4000000 in
set_option maxRecDepth 100000 in
theorem tX0_wordOf {l : Launch} (a b : Nat) (h2 : b < 2 ^ 31) : PuI l yX0_wordOf wsX0_wordOf (rmd 0) [.int (nI a), .int (nI b)] (nI (a * 4 + b / 64)) := by
  refine px_met (cc := cX0_wordOf) (maxL := 2) (ret := (some .int)) (lv := [(0, .int (nI a)), (1, .int (nI b))]) (by decide +kernel) rfl (Nat.le_of_ble_eq_true rfl) rfl ?_
  intro p e s m below meth c ls S hr hlk hnm hv hl
  obtain ⟨hx, hb, hml, hown, hts⟩ := id S
  refine lv_iload_n hx hb dX0_wordOf_0 rfl (lv_at hl 0 rfl) ?_
  refine lv_iconst (v := nI 4) hx hb dX0_wordOf_1 (by decide +kernel) ?_
  refine px_mul hx hb dX0_wordOf_2 ?_
  refine lv_iload_n hx hb dX0_wordOf_3 rfl (lv_at hl 1 rfl) ?_
  refine lv_bipush (v := nI 64) hx hb dX0_wordOf_4 (by decide +kernel) ?_
  refine px_div hx hb dX0_wordOf_6 (by omega) (by decide) (by decide) ?_
  refine px_add hx hb dX0_wordOf_7 ?_
  exact px_ri hx hb hr hlk rfl dX0_wordOf_8
set_option maxHeartbeats 4000000 in
set_option maxRecDepth 100000 in
theorem tX0_bitOf {l : Launch} (b : Nat) (h2 : b < 2 ^ 31) : PuL l yX0_bitOf wsX0_bitOf (rmd 0) [.int (nI b)] (pm_bit b) := by
  refine px_met (cc := cX0_bitOf) (maxL := 1) (ret := (some .long)) (lv := [(0, .int (nI b))]) (by decide +kernel) rfl (Nat.le_of_ble_eq_true rfl) rfl ?_
  intro p e s m below meth c ls S hr hlk hnm hv hl
  obtain ⟨hx, hb, hml, hown, hts⟩ := id S
  refine lv_lconst (v := 1) hx hb dX0_bitOf_0 (by decide +kernel) ?_
  refine lv_iload_n hx hb dX0_bitOf_1 rfl (lv_at hl 0 rfl) ?_
  refine lv_bipush (v := nI 64) hx hb dX0_bitOf_2 (by decide +kernel) ?_
  refine px_rem hx hb dX0_bitOf_4 (by omega) (by decide) (by decide) ?_
  refine lv_lshl (v := 1 <<< ((nI (b % 64)).toInt64 &&& 63)) hx hb dX0_bitOf_5 rfl ?_
  exact px_rl hx hb hr hlk rfl dX0_bitOf_6
set_option maxHeartbeats 4000000 in
set_option maxRecDepth 100000 in
theorem tX0_hasEdge {l : Launch} {D : va_G} {cI cJ cZ : ClassId} {ad : Nat → Nat} {pt co gv : Int32} {E : Nat → Int64} {G C Wi O IO NI CF : Nat → Int32} (J : Nat → Nat → Bool) (hJ : ∀ a b, a < 200 → b < 200 → pm_ed E a b = J a b) (a b : Nat) (h1 : a < 200) (h2 : b < 200) : RdI l yX0_hasEdge wsX0_hasEdge (rmd 1) D (tyq cI cJ cZ) [.ref (ad 0), .int (nI a), .int (nI b)] (w0 cI cJ cZ ad pt co gv E G C Wi O IO NI CF) (px_b (J a b)) := by
  rw [← hJ a b h1 h2]
  refine px_met (cc := cX0_hasEdge) (maxL := 3) (ret := (some .boolean)) (lv := [(0, .ref (ad 0)), (1, .int (nI a)), (2, .int (nI b))]) (by decide +kernel) rfl (Nat.le_of_ble_eq_true rfl) rfl ?_
  intro p e s m below meth c ls S hr hlk hnm hv hl
  obtain ⟨hx, hb, hml, hown, hts⟩ := id S
  obtain ⟨hP, hK⟩ := hv
  have hin : ∀ w ∈ wsX00, w ∈ wsX0_hasEdge := fun w h => List.mem_cons_of_mem _ (List.mem_append_right _ h)
  have f9 := hts (.fieldLink RX0 9 "PointColours" "edges" "[J") (by decide +kernel)
  refine lv_aload_n hx hb dX0_hasEdge_0 rfl (lv_at hl 0 rfl) ?_
  refine va_get (D := D) (ci := 0) (v := .ref (ad 1)) (C := RX0) (T := TX0) (N := 11) hx hb hts hin hown hK hP 0 rfl rfl 3 (by decide) f9 (fun _ h9 => h9) rfl dX0_hasEdge_1 ?_
  refine lv_iload_n hx hb dX0_hasEdge_4 rfl (lv_at hl 1 rfl) ?_
  refine lv_iload_n hx hb dX0_hasEdge_5 rfl (lv_at hl 2 rfl) ?_
  refine px_pu (v := nI (a * 4 + b / 64)) (rest := [.ref (ad 1)]) S (tX0_wordOf a b (by omega)) (va_cwS 2 hts gX0_hasEdge_X0_wordOf rfl rfl rfl (by decide +kernel) ⟨by decide, by decide⟩) rfl hl.1 rfl (Nat.le_of_ble_eq_true rfl) dX0_hasEdge_6 ⟨Nat.zero_le _, Nat.zero_le _⟩ ?_
  refine px_lald (n := 800) (i := (a * 4 + b / 64)) hx hb hK hP 1 1 rfl rfl (by omega) (by decide) dX0_hasEdge_9 ?_
  refine lv_iload_n hx hb dX0_hasEdge_10 rfl (lv_at hl 2 rfl) ?_
  refine px_pl (v := pm_bit b) (rest := [.long (E (a * 4 + b / 64))]) S (tX0_bitOf b (by omega)) (va_cwS 1 hts gX0_hasEdge_X0_bitOf rfl rfl rfl (by decide +kernel) ⟨by decide, by decide⟩) rfl hl.1 rfl (Nat.le_of_ble_eq_true rfl) dX0_hasEdge_11 ⟨Nat.zero_le _, Nat.zero_le _⟩ ?_
  refine lv_land hx hb dX0_hasEdge_14 ?_
  refine lv_lconst (v := 0) hx hb dX0_hasEdge_15 (by decide +kernel) ?_
  refine W.lcmp hx hb dX0_hasEdge_16 ?_
  refine lv_if_eq (tgt := 24) hx hb dX0_hasEdge_17 (by decide) (fun h17 => ?_) (fun h17 => ?_)
  · refine lv_iconst (v := px_b false) hx hb dX0_hasEdge_24 (by decide +kernel) ?_
    exact px_rz hx hb hr hlk (by rw [lg_cmp_eq, pm_bit_and] at h17; simp [pm_ed, h17]) dX0_hasEdge_25
  · refine lv_iconst (v := px_b true) hx hb dX0_hasEdge_20 (by decide +kernel) ?_
    refine lv_goto (tgt := 25) hx hb dX0_hasEdge_21 (by decide) ?_
    exact px_rz hx hb hr hlk (by rw [lg_cmp_eq, pm_bit_and] at h17; simp [pm_ed, h17]) dX0_hasEdge_25
set_option maxHeartbeats 4000000 in
set_option maxRecDepth 100000 in
theorem tX0_isFree {l : Launch} (c0 : Nat) (x : Int32) (hc : c0 < 32) : PuI l yX0_isFree wsX0_isFree (rmd 0) [.int (nI c0), .int x] (px_b (!x.toBitVec.getLsbD c0)) := by
  refine px_met (cc := cX0_isFree) (maxL := 2) (ret := (some .boolean)) (lv := [(0, .int (nI c0)), (1, .int x)]) (by decide +kernel) rfl (Nat.le_of_ble_eq_true rfl) rfl ?_
  intro p e s m below meth c ls S hr hlk hnm hv hl
  obtain ⟨hx, hb, hml, hown, hts⟩ := id S
  refine lv_iload_n hx hb dX0_isFree_0 rfl (lv_at hl 1 rfl) ?_
  refine lv_iconst (v := 1) hx hb dX0_isFree_1 (by decide +kernel) ?_
  refine lv_iload_n hx hb dX0_isFree_2 rfl (lv_at hl 0 rfl) ?_
  refine lv_ishl hx hb dX0_isFree_3 ?_
  refine lv_iand hx hb dX0_isFree_4 ?_
  refine lv_if_ne (tgt := 12) hx hb dX0_isFree_5 (by decide) (fun h5 => ?_) (fun h5 => ?_)
  · refine lv_iconst (v := px_b false) hx hb dX0_isFree_12 (by decide +kernel) ?_
    exact px_rz hx hb hr hlk (by first | (have h5 := (pm_b32_and x hc).mp h5; rw [h5]; rfl) | (have h5 : ¬ x &&& pm_b32 c0 = 0 := h5; rw [pm_b32_and x hc] at h5; simp at h5; rw [h5]; rfl)) dX0_isFree_13
  · refine lv_iconst (v := px_b true) hx hb dX0_isFree_8 (by decide +kernel) ?_
    refine lv_goto (tgt := 13) hx hb dX0_isFree_9 (by decide) ?_
    exact px_rz hx hb hr hlk (by first | (have h5 := (pm_b32_and x hc).mp h5; rw [h5]; rfl) | (have h5 : ¬ x &&& pm_b32 c0 = 0 := h5; rw [pm_b32_and x hc] at h5; simp at h5; rw [h5]; rfl)) dX0_isFree_13
end
section
set_option maxHeartbeats 4000000 in
set_option maxRecDepth 100000 in
theorem tX0_isCheaper {l : Launch} {D : va_G} {cI cJ cZ : ClassId} {ad : Nat → Nat} {n k : Nat} {gv : Int32} {E : Nat → Int64} {G C Wi O IO NI CF : Nat → Int32} {x1 x2 y1 y2 : Nat} (a b : Nat) (h1 : a < 200) (h2 : b < 200) (ha : C a = nI x1) (hd : NI b = nI y2) (hc : C b = nI x2) (he : NI a = nI y1) (b1 : x1 ≤ 1000000) (b2 : y2 ≤ 200) (b3 : x2 ≤ 1000000) (b4 : y1 ≤ 200) : RdI l yX0_isCheaper wsX0_isCheaper (rmd 0) D (tyq cI cJ cZ) [.ref (ad 0), .int (nI a), .int (nI b)] (w0 cI cJ cZ ad (nI n) (nI k) gv E G C Wi O IO NI CF) (px_b (decide (x1 * y2 < x2 * y1))) := by
  refine px_met (cc := cX0_isCheaper) (maxL := 3) (ret := (some .boolean)) (lv := [(0, .ref (ad 0)), (1, .int (nI a)), (2, .int (nI b))]) (by decide +kernel) rfl (Nat.le_of_ble_eq_true rfl) rfl ?_
  intro p e s m below meth c ls S hr hlk hnm hv hl
  obtain ⟨hx, hb, hml, hown, hts⟩ := id S
  obtain ⟨hP, hK⟩ := hv
  have hin : ∀ w ∈ wsX00, w ∈ wsX0_isCheaper := fun w h => List.mem_cons_of_mem _ (List.mem_append_right _ h)
  have f17 := hts (.fieldLink RX0 17 "PointColours" "costs" "[I") (by decide +kernel)
  have f30 := hts (.fieldLink RX0 30 "PointColours" "neighboursIn" "[I") (by decide +kernel)
  refine lv_aload_n hx hb dX0_isCheaper_0 rfl (lv_at hl 0 rfl) ?_
  refine va_get (D := D) (ci := 0) (v := .ref (ad 3)) (C := RX0) (T := TX0) (N := 11) hx hb hts hin hown hK hP 0 rfl rfl 5 (by decide) f17 (fun _ h9 => h9) rfl dX0_isCheaper_1 ?_
  refine lv_iload_n hx hb dX0_isCheaper_4 rfl (lv_at hl 1 rfl) ?_
  refine px_iald (n := 200) (i := a) hx hb hK hP 3 0 rfl rfl (by omega) (by decide) dX0_isCheaper_5 ?_
  refine px_top (y := nI x1) (ha) ?_
  refine lv_i2l (v := (nI x1).toInt64) hx hb dX0_isCheaper_6 rfl ?_
  refine lv_aload_n hx hb dX0_isCheaper_7 rfl (lv_at hl 0 rfl) ?_
  refine va_get (D := D) (ci := 0) (v := .ref (ad 7)) (C := RX0) (T := TX0) (N := 11) hx hb hts hin hown hK hP 0 rfl rfl 9 (by decide) f30 (fun _ h9 => h9) rfl dX0_isCheaper_8 ?_
  refine lv_iload_n hx hb dX0_isCheaper_11 rfl (lv_at hl 2 rfl) ?_
  refine px_iald (n := 200) (i := b) hx hb hK hP 7 0 rfl rfl (by omega) (by decide) dX0_isCheaper_12 ?_
  refine px_top (y := nI y2) (hd) ?_
  refine lv_i2l (v := (nI y2).toInt64) hx hb dX0_isCheaper_13 rfl ?_
  refine lv_lmul hx hb dX0_isCheaper_14 ?_
  refine lv_aload_n hx hb dX0_isCheaper_15 rfl (lv_at hl 0 rfl) ?_
  refine va_get (D := D) (ci := 0) (v := .ref (ad 3)) (C := RX0) (T := TX0) (N := 11) hx hb hts hin hown hK hP 0 rfl rfl 5 (by decide) f17 (fun _ h9 => h9) rfl dX0_isCheaper_16 ?_
  refine lv_iload_n hx hb dX0_isCheaper_19 rfl (lv_at hl 2 rfl) ?_
  refine px_iald (n := 200) (i := b) hx hb hK hP 3 0 rfl rfl (by omega) (by decide) dX0_isCheaper_20 ?_
  refine px_top (y := nI x2) (hc) ?_
  refine lv_i2l (v := (nI x2).toInt64) hx hb dX0_isCheaper_21 rfl ?_
  refine lv_aload_n hx hb dX0_isCheaper_22 rfl (lv_at hl 0 rfl) ?_
  refine va_get (D := D) (ci := 0) (v := .ref (ad 7)) (C := RX0) (T := TX0) (N := 11) hx hb hts hin hown hK hP 0 rfl rfl 9 (by decide) f30 (fun _ h9 => h9) rfl dX0_isCheaper_23 ?_
  refine lv_iload_n hx hb dX0_isCheaper_26 rfl (lv_at hl 1 rfl) ?_
  refine px_iald (n := 200) (i := a) hx hb hK hP 7 0 rfl rfl (by omega) (by decide) dX0_isCheaper_27 ?_
  refine px_top (y := nI y1) (he) ?_
  refine lv_i2l (v := (nI y1).toInt64) hx hb dX0_isCheaper_28 rfl ?_
  refine lv_lmul hx hb dX0_isCheaper_29 ?_
  refine W.lcmp hx hb dX0_isCheaper_30 ?_
  refine lv_if_ge (tgt := 38) hx hb dX0_isCheaper_31 (by decide) (fun h31 => ?_) (fun h31 => ?_)
  · refine lv_iconst (v := px_b false) hx hb dX0_isCheaper_38 (by decide +kernel) ?_
    exact px_rz hx hb hr hlk (by rw [pm_chp b1 b2 b3 b4] at h31; congr 1; simp; omega) dX0_isCheaper_39
  · refine lv_iconst (v := px_b true) hx hb dX0_isCheaper_34 (by decide +kernel) ?_
    refine lv_goto (tgt := 39) hx hb dX0_isCheaper_35 (by decide) ?_
    exact px_rz hx hb hr hlk (by rw [pm_chp b1 b2 b3 b4] at h31; congr 1; simp; omega) dX0_isCheaper_39
set_option maxHeartbeats 4000000 in
set_option maxRecDepth 100000 in
theorem tX0_nextOut {l : Launch} {D : va_G} {cI cJ cZ : ClassId} {ad : Nat → Nat} {n k : Nat} {gv : Int32} {E : Nat → Int64} {G C Wi O IO NI CF : Nat → Int32} (J : Nat → Nat → Bool) (cst : Nat → Nat) (inn : Nat → Bool) (hn : n ≤ 200) (hk : k ≤ 30) (hI : ∀ a, a < n → IO a = px_b (!inn a)) (hN : ∀ a, a < n → NI a = nI (pm_lf J n inn a)) (hC : ∀ a, a < 200 → C a = nI (cst a)) (hc1 : ∀ a, cst a ≤ 1000000) : RdI l yX0_nextOut wsX0_nextOut (rmd 1) D (tyq cI cJ cZ) [.ref (ad 0)] (w0 cI cJ cZ ad (nI n) (nI k) gv E G C Wi O IO NI CF) (pm_o (pm_nx J n k cst inn)) := by
  refine px_met (cc := cX0_nextOut) (maxL := 3) (ret := (some .int)) (lv := [(0, .ref (ad 0))]) (by decide +kernel) rfl (Nat.le_of_ble_eq_true rfl) rfl ?_
  intro p e s m below meth c ls S hr hlk hnm hv hl
  obtain ⟨hx, hb, hml, hown, hts⟩ := id S
  obtain ⟨hP, hK⟩ := hv
  have hin : ∀ w ∈ wsX00, w ∈ wsX0_nextOut := fun w h => List.mem_cons_of_mem _ (List.mem_append_right _ h)
  have f66 := hts (.fieldLink RX0 66 "PointColours" "points" "I") (by decide +kernel)
  have f26 := hts (.fieldLink RX0 26 "PointColours" "isOut" "[Z") (by decide +kernel)
  have f30 := hts (.fieldLink RX0 30 "PointColours" "neighboursIn" "[I") (by decide +kernel)
  have f70 := hts (.fieldLink RX0 70 "PointColours" "colours" "I") (by decide +kernel)
  have loop : ∀ (f i : Nat), n + 1 ≤ i + f → i ≤ n → pm_ft (pm_lo J n k inn) i = none → ∀ ls : Array Slot, lv_has ls 3 [(2, .int (nI i)), (1, .int (pm_o (pm_bs J n cst inn i))), (0, .ref (ad 0))] → W p l e (rmd 1) s m ([.ref (ad 0)] : List Value).toArray below meth c s.heap [] 0 0 (MQ below (vp_Si (fun r => r = pm_o (pm_nx J n k cst inn))) ([.ref (ad 0)] : List Value).toArray s 0 0 (fun _ => False)) (F0 m 4 ls []) := by
    intro f
    induction f with
    | zero => intro i h1 h2; exact absurd h1 (by omega)
    | succ f ih =>
      intro i h1 h2 hft ls hl
      refine lv_iload_n hx hb dX0_nextOut_4 rfl (lv_at hl 0 rfl) ?_
      refine lv_aload_n hx hb dX0_nextOut_5 rfl (lv_at hl 2 rfl) ?_
      refine va_get (D := D) (ci := 0) (v := .int (nI n)) (C := RX0) (T := TX0) (N := 11) hx hb hts hin hown hK hP 0 rfl rfl 0 (by decide) f66 (fun _ h9 => h9) rfl dX0_nextOut_6 ?_
      refine px_ge (tgt := 61) hx hb dX0_nextOut_9 (by decide) (by omega) (by omega) (fun h9 => ?_) (fun h9 => ?_)
      · refine lv_iload_n hx hb dX0_nextOut_61 rfl (lv_at hl 1 rfl) ?_
        obtain rfl : i = n := by omega
        exact px_ri hx hb hr hlk (by rw [pm_nx, hft]) dX0_nextOut_62
      · refine lv_aload_n hx hb dX0_nextOut_12 rfl (lv_at hl 2 rfl) ?_
        refine va_get (D := D) (ci := 0) (v := .ref (ad 6)) (C := RX0) (T := TX0) (N := 11) hx hb hts hin hown hK hP 0 rfl rfl 8 (by decide) f26 (fun _ h9 => h9) rfl dX0_nextOut_13 ?_
        refine lv_iload_n hx hb dX0_nextOut_16 rfl (lv_at hl 0 rfl) ?_
        refine px_zald (n := 200) (i := i) hx hb hK hP 6 2 rfl rfl (by omega) (by decide) dX0_nextOut_17 ?_
        refine px_top (y := px_b (!inn i)) (hI _ (by omega)) ?_
        refine px_eqb (tgt := 24) hx hb dX0_nextOut_18 (by decide) (fun h18 => ?_) (fun h18 => ?_)
        · have hi : inn i = true := by simpa using h18
          have hlf := pm_lf_le J n inn i
          refine lv_aload_n hx hb dX0_nextOut_24 rfl (lv_at hl 2 rfl) ?_
          refine va_get (D := D) (ci := 0) (v := .ref (ad 7)) (C := RX0) (T := TX0) (N := 11) hx hb hts hin hown hK hP 0 rfl rfl 9 (by decide) f30 (fun _ h9 => h9) rfl dX0_nextOut_25 ?_
          refine lv_iload_n hx hb dX0_nextOut_28 rfl (lv_at hl 0 rfl) ?_
          refine px_iald (n := 200) (i := i) hx hb hK hP 7 0 rfl rfl (by omega) (by decide) dX0_nextOut_29 ?_
          refine px_top (y := nI (pm_lf J n inn i)) (hN _ (by omega)) ?_
          refine lv_aload_n hx hb dX0_nextOut_30 rfl (lv_at hl 2 rfl) ?_
          refine va_get (D := D) (ci := 0) (v := .int (nI k)) (C := RX0) (T := TX0) (N := 11) hx hb hts hin hown hK hP 0 rfl rfl 1 (by decide) f70 (fun _ h9 => h9) rfl dX0_nextOut_31 ?_
          refine px_ge (tgt := 39) hx hb dX0_nextOut_34 (by decide) (by omega) (by omega) (fun h34 => ?_) (fun h34 => ?_)
          · have hlo : pm_lo J n k inn i = false := by simp [pm_lo, hi]; exact h34
            cases hB : pm_bs J n cst inn i with
            | none =>
              have hl : lv_has ls 3 [(2, .int (nI i)), (1, .int (-1)), (0, .ref (ad 0))] := by rw [hB] at hl; exact hl
              refine lv_iload_n hx hb dX0_nextOut_39 rfl (lv_at hl 1 rfl) ?_
              refine lv_iconst (v := -1) hx hb dX0_nextOut_40 (by decide +kernel) ?_
              refine lv_icmp_eq (tgt := 53) hx hb dX0_nextOut_41 (by decide) (fun h41 => ?_) (fun h41 => ?_)
              rotate_left
              · exact absurd rfl h41
              refine lv_iload_n hx hb dX0_nextOut_53 rfl (lv_at hl 0 rfl) ?_
              refine lv_istore_n (lv' := [(1, .int (nI i)), (2, .int (nI i)), (0, .ref (ad 0))]) hx hb dX0_nextOut_54 rfl hl (by decide) rfl (fun ls hl => ?_)
              refine lv_iinc (v := nI (i + 1)) (lv' := [(2, .int (nI (i + 1))), (1, .int (nI i)), (0, .ref (ad 0))]) hx hb dX0_nextOut_55 hl (k := 1) rfl (px_inc1 _) (by decide) rfl (fun ls hl => ?_)
              refine lv_goto (tgt := 4) hx hb dX0_nextOut_58 (by decide) ?_
              exact ih (i + 1) (by omega) (by omega) (pm_ft_none hft hlo) ls (by first | (have e : pm_bs J n cst inn (i + 1) = pm_bs J n cst inn i := by simp [pm_bs, hi]); rw [e]; exact lv_sub hl [0, 1, 2] rfl | (have e : pm_bs J n cst inn (i + 1) = some i := by simp [pm_bs, hi, hB]); rw [e]; exact lv_sub hl [0, 1, 2] rfl | (have e : pm_bs J n cst inn (i + 1) = some i := by simp [pm_bs, hi, hB, hch]); rw [e]; exact lv_sub hl [0, 1, 2] rfl | (have e : pm_bs J n cst inn (i + 1) = some b := by simp [pm_bs, hi, hB, hch]); rw [e]; exact lv_sub hl [0, 1, 2] rfl)
            | some b =>
              have hbi := pm_bs_lt hB
              have hl : lv_has ls 3 [(2, .int (nI i)), (1, .int (nI b)), (0, .ref (ad 0))] := by rw [hB] at hl; exact hl
              refine lv_iload_n hx hb dX0_nextOut_39 rfl (lv_at hl 1 rfl) ?_
              refine lv_iconst (v := -1) hx hb dX0_nextOut_40 (by decide +kernel) ?_
              refine lv_icmp_eq (tgt := 53) hx hb dX0_nextOut_41 (by decide) (fun h41 => ?_) (fun h41 => ?_)
              · exact absurd h41 (pm_m1 (by omega))
              refine lv_aload_n hx hb dX0_nextOut_44 rfl (lv_at hl 2 rfl) ?_
              refine lv_iload_n hx hb dX0_nextOut_45 rfl (lv_at hl 0 rfl) ?_
              refine lv_iload_n hx hb dX0_nextOut_46 rfl (lv_at hl 1 rfl) ?_
              refine px_rd (ci := 0) (q := (RX0, TX0, 11)) (v := px_b (decide (cst i * pm_lf J n inn b < cst b * pm_lf J n inn i))) (rest := []) S hP hK (tX0_isCheaper i b (by omega) (by omega) (hC _ (by omega)) (hN _ (by omega)) (hC _ (by omega)) (hN _ (by omega)) (hc1 _) (Nat.le_trans (pm_lf_le _ _ _ _) hn) (hc1 _) (Nat.le_trans (pm_lf_le _ _ _ _) hn)) (cwV 2 hts gX0_nextOut_X0_isCheaper rfl rfl rfl (by decide +kernel) ⟨by decide, by decide⟩) rfl rfl rfl hl.1 rfl (Nat.le_of_ble_eq_true rfl) dX0_nextOut_47 ⟨Nat.zero_le _, Nat.zero_le _⟩ ?_
              refine px_eqb (tgt := 55) hx hb dX0_nextOut_50 (by decide) (fun h50 => ?_) (fun h50 => ?_)
              · have hch := h50
                simp at hch
                have hch := Nat.not_lt.mpr hch
                refine lv_iinc (v := nI (i + 1)) (lv' := [(2, .int (nI (i + 1))), (1, .int (nI b)), (0, .ref (ad 0))]) hx hb dX0_nextOut_55 hl (k := 0) rfl (px_inc1 _) (by decide) rfl (fun ls hl => ?_)
                refine lv_goto (tgt := 4) hx hb dX0_nextOut_58 (by decide) ?_
                exact ih (i + 1) (by omega) (by omega) (pm_ft_none hft hlo) ls (by first | (have e : pm_bs J n cst inn (i + 1) = pm_bs J n cst inn i := by simp [pm_bs, hi]); rw [e]; exact lv_sub hl [0, 1, 2] rfl | (have e : pm_bs J n cst inn (i + 1) = some i := by simp [pm_bs, hi, hB]); rw [e]; exact lv_sub hl [0, 1, 2] rfl | (have e : pm_bs J n cst inn (i + 1) = some i := by simp [pm_bs, hi, hB, hch]); rw [e]; exact lv_sub hl [0, 1, 2] rfl | (have e : pm_bs J n cst inn (i + 1) = some b := by simp [pm_bs, hi, hB, hch]); rw [e]; exact lv_sub hl [0, 1, 2] rfl)
              · have hch := h50
                simp at hch
                refine lv_iload_n hx hb dX0_nextOut_53 rfl (lv_at hl 0 rfl) ?_
                refine lv_istore_n (lv' := [(1, .int (nI i)), (2, .int (nI i)), (0, .ref (ad 0))]) hx hb dX0_nextOut_54 rfl hl (by decide) rfl (fun ls hl => ?_)
                refine lv_iinc (v := nI (i + 1)) (lv' := [(2, .int (nI (i + 1))), (1, .int (nI i)), (0, .ref (ad 0))]) hx hb dX0_nextOut_55 hl (k := 1) rfl (px_inc1 _) (by decide) rfl (fun ls hl => ?_)
                refine lv_goto (tgt := 4) hx hb dX0_nextOut_58 (by decide) ?_
                exact ih (i + 1) (by omega) (by omega) (pm_ft_none hft hlo) ls (by first | (have e : pm_bs J n cst inn (i + 1) = pm_bs J n cst inn i := by simp [pm_bs, hi]); rw [e]; exact lv_sub hl [0, 1, 2] rfl | (have e : pm_bs J n cst inn (i + 1) = some i := by simp [pm_bs, hi, hB]); rw [e]; exact lv_sub hl [0, 1, 2] rfl | (have e : pm_bs J n cst inn (i + 1) = some i := by simp [pm_bs, hi, hB, hch]); rw [e]; exact lv_sub hl [0, 1, 2] rfl | (have e : pm_bs J n cst inn (i + 1) = some b := by simp [pm_bs, hi, hB, hch]); rw [e]; exact lv_sub hl [0, 1, 2] rfl)
          · refine lv_iload_n hx hb dX0_nextOut_37 rfl (lv_at hl 0 rfl) ?_
            exact px_ri hx hb hr hlk (by rw [pm_nx, pm_ft_here hft (by simp [pm_lo, hi, h34]) (by omega)]; rfl) dX0_nextOut_38
        · have hi : inn i = false := by simpa using h18
          have hlo : pm_lo J n k inn i = false := by simp [pm_lo, hi]
          refine lv_goto (tgt := 55) hx hb dX0_nextOut_21 (by decide) ?_
          refine lv_iinc (v := nI (i + 1)) (lv' := [(2, .int (nI (i + 1))), (1, .int (pm_o (pm_bs J n cst inn i))), (0, .ref (ad 0))]) hx hb dX0_nextOut_55 hl (k := 0) rfl (px_inc1 _) (by decide) rfl (fun ls hl => ?_)
          refine lv_goto (tgt := 4) hx hb dX0_nextOut_58 (by decide) ?_
          exact ih (i + 1) (by omega) (by omega) (pm_ft_none hft hlo) ls (by first | (have e : pm_bs J n cst inn (i + 1) = pm_bs J n cst inn i := by simp [pm_bs, hi]); rw [e]; exact lv_sub hl [0, 1, 2] rfl | (have e : pm_bs J n cst inn (i + 1) = some i := by simp [pm_bs, hi, hB]); rw [e]; exact lv_sub hl [0, 1, 2] rfl | (have e : pm_bs J n cst inn (i + 1) = some i := by simp [pm_bs, hi, hB, hch]); rw [e]; exact lv_sub hl [0, 1, 2] rfl | (have e : pm_bs J n cst inn (i + 1) = some b := by simp [pm_bs, hi, hB, hch]); rw [e]; exact lv_sub hl [0, 1, 2] rfl)
  refine lv_iconst (v := -1) hx hb dX0_nextOut_0 (by decide +kernel) ?_
  refine lv_istore_n (lv' := [(1, .int (-1)), (0, .ref (ad 0))]) hx hb dX0_nextOut_1 rfl hl (by decide) rfl (fun ls hl => ?_)
  refine lv_iconst (v := nI 0) hx hb dX0_nextOut_2 (by decide +kernel) ?_
  refine lv_istore_n (lv' := [(2, .int (nI 0)), (1, .int (-1)), (0, .ref (ad 0))]) hx hb dX0_nextOut_3 rfl hl (by decide) rfl (fun ls hl => ?_)
  exact loop (n + 1) 0 (by omega) (by omega) rfl ls (lv_sub hl [0, 1, 2] rfl)
set_option maxHeartbeats 4000000 in
set_option maxRecDepth 100000 in
theorem tX0_countColourless {l : Launch} {D : va_G} {cI cJ cZ : ClassId} {ad : Nat → Nat} {n k : Nat} {gv : Int32} {E : Nat → Int64} {G C Wi O IO NI CF : Nat → Int32} (hn : n ≤ 200) : RdI l yX0_countColourless wsX0_countColourless (rmd 0) D (tyq cI cJ cZ) [.ref (ad 0)] (w0 cI cJ cZ ad (nI n) (nI k) gv E G C Wi O IO NI CF) (nI (pm_cn (fun q => decide (CF q = -1)) n)) := by
  refine px_met (cc := cX0_countColourless) (maxL := 3) (ret := (some .int)) (lv := [(0, .ref (ad 0))]) (by decide +kernel) rfl (Nat.le_of_ble_eq_true rfl) rfl ?_
  intro p e s m below meth c ls S hr hlk hnm hv hl
  obtain ⟨hx, hb, hml, hown, hts⟩ := id S
  obtain ⟨hP, hK⟩ := hv
  have hin : ∀ w ∈ wsX00, w ∈ wsX0_countColourless := fun w h => List.mem_cons_of_mem _ (List.mem_append_right _ h)
  have f66 := hts (.fieldLink RX0 66 "PointColours" "points" "I") (by decide +kernel)
  have f33 := hts (.fieldLink RX0 33 "PointColours" "colourOf" "[I") (by decide +kernel)
  have loop : ∀ (f i : Nat), n + 1 ≤ i + f → i ≤ n → ∀ ls : Array Slot, lv_has ls 3 [(1, .int (nI (pm_cn (fun q => decide (CF q = -1)) i))), (2, .int (nI i)), (0, .ref (ad 0))] → W p l e (rmd 0) s m ([.ref (ad 0)] : List Value).toArray below meth c s.heap [] 0 0 (MQ below (vp_Si (fun r => r = nI (pm_cn (fun q => decide (CF q = -1)) n))) ([.ref (ad 0)] : List Value).toArray s 0 0 (fun _ => False)) (F0 m 4 ls []) := by
    intro f
    induction f with
    | zero => intro i h1 h2; exact absurd h1 (by omega)
    | succ f ih =>
      intro i h1 h2 ls hl
      refine lv_iload_n hx hb dX0_countColourless_4 rfl (lv_at hl 1 rfl) ?_
      refine lv_aload_n hx hb dX0_countColourless_5 rfl (lv_at hl 2 rfl) ?_
      refine va_get (D := D) (ci := 0) (v := .int (nI n)) (C := RX0) (T := TX0) (N := 11) hx hb hts hin hown hK hP 0 rfl rfl 0 (by decide) f66 (fun _ h9 => h9) rfl dX0_countColourless_6 ?_
      refine px_ge (tgt := 31) hx hb dX0_countColourless_9 (by decide) (by omega) (by omega) (fun h9 => ?_) (fun h9 => ?_)
      · refine lv_iload_n hx hb dX0_countColourless_31 rfl (lv_at hl 0 rfl) ?_
        obtain rfl : i = n := by omega
        exact px_ri hx hb hr hlk rfl dX0_countColourless_32
      · refine lv_aload_n hx hb dX0_countColourless_12 rfl (lv_at hl 2 rfl) ?_
        refine va_get (D := D) (ci := 0) (v := .ref (ad 8)) (C := RX0) (T := TX0) (N := 11) hx hb hts hin hown hK hP 0 rfl rfl 10 (by decide) f33 (fun _ h9 => h9) rfl dX0_countColourless_13 ?_
        refine lv_iload_n hx hb dX0_countColourless_16 rfl (lv_at hl 1 rfl) ?_
        refine px_iald (n := 200) (i := i) hx hb hK hP 8 0 rfl rfl (by omega) (by decide) dX0_countColourless_17 ?_
        refine lv_iconst (v := -1) hx hb dX0_countColourless_18 (by decide +kernel) ?_
        refine lv_icmp_ne (tgt := 25) hx hb dX0_countColourless_19 (by decide) (fun h19 => ?_) (fun h19 => ?_)
        · refine lv_iinc (v := nI (i + 1)) (lv' := [(2, .int (nI (i + 1))), (1, .int (nI (pm_cn (fun q => decide (CF q = -1)) i))), (0, .ref (ad 0))]) hx hb dX0_countColourless_25 hl (k := 1) rfl (px_inc1 _) (by decide) rfl (fun ls hl => ?_)
          refine lv_goto (tgt := 4) hx hb dX0_countColourless_28 (by decide) ?_
          exact ih (i + 1) (by omega) (by omega) ls (by first | (rw [pm_cn_1 (f := (fun q => decide (CF q = -1))) (by simpa using h19)]; exact lv_sub hl [1, 0, 2] rfl) | (rw [pm_cn_0 (f := (fun q => decide (CF q = -1))) (by simpa using h19)]; exact lv_sub hl [1, 0, 2] rfl))
        · refine lv_iinc (v := nI (pm_cn (fun q => decide (CF q = -1)) i + 1)) (lv' := [(1, .int (nI (pm_cn (fun q => decide (CF q = -1)) i + 1))), (2, .int (nI i)), (0, .ref (ad 0))]) hx hb dX0_countColourless_22 hl (k := 0) rfl (px_inc1 _) (by decide) rfl (fun ls hl => ?_)
          refine lv_iinc (v := nI (i + 1)) (lv' := [(2, .int (nI (i + 1))), (1, .int (nI (pm_cn (fun q => decide (CF q = -1)) i + 1))), (0, .ref (ad 0))]) hx hb dX0_countColourless_25 hl (k := 1) rfl (px_inc1 _) (by decide) rfl (fun ls hl => ?_)
          refine lv_goto (tgt := 4) hx hb dX0_countColourless_28 (by decide) ?_
          exact ih (i + 1) (by omega) (by omega) ls (by first | (rw [pm_cn_1 (f := (fun q => decide (CF q = -1))) (by simpa using h19)]; exact lv_sub hl [1, 0, 2] rfl) | (rw [pm_cn_0 (f := (fun q => decide (CF q = -1))) (by simpa using h19)]; exact lv_sub hl [1, 0, 2] rfl))
  refine lv_iconst (v := nI 0) hx hb dX0_countColourless_0 (by decide +kernel) ?_
  refine lv_istore_n (lv' := [(1, .int (nI 0)), (0, .ref (ad 0))]) hx hb dX0_countColourless_1 rfl hl (by decide) rfl (fun ls hl => ?_)
  refine lv_iconst (v := nI 0) hx hb dX0_countColourless_2 (by decide +kernel) ?_
  refine lv_istore_n (lv' := [(2, .int (nI 0)), (1, .int (nI 0)), (0, .ref (ad 0))]) hx hb dX0_countColourless_3 rfl hl (by decide) rfl (fun ls hl => ?_)
  exact loop (n + 1) 0 (by omega) (by omega) ls (lv_sub hl [1, 0, 2] rfl)
end
section
set_option maxHeartbeats 4000000 in
set_option maxRecDepth 100000 in
theorem tX0_wishedColour {l : Launch} {D : va_G} {cI cJ cZ : ClassId} {ad : Nat → Nat} {n k : Nat} {gv : Int32} {E : Nat → Int64} {G C Wi O IO NI CF : Nat → Int32} (ws : Nat → Nat) (hn : n ≤ 200) (a : Nat) (ha : a < n) (hwn : ws a < n) (hW : Wi a = if ws a = a then -1 else nI (ws a)) : RdI l yX0_wishedColour wsX0_wishedColour (rmd 1) D (tyq cI cJ cZ) [.ref (ad 0), .int (nI a)] (w0 cI cJ cZ ad (nI n) (nI k) gv E G C Wi O IO NI CF) (if ws a = a then -1 else CF (ws a)) := by
  refine px_met (cc := cX0_wishedColour) (maxL := 3) (ret := (some .int)) (lv := [(0, .ref (ad 0)), (1, .int (nI a))]) (by decide +kernel) rfl (Nat.le_of_ble_eq_true rfl) rfl ?_
  intro p e s m below meth c ls S hr hlk hnm hv hl
  obtain ⟨hx, hb, hml, hown, hts⟩ := id S
  obtain ⟨hP, hK⟩ := hv
  have hin : ∀ w ∈ wsX00, w ∈ wsX0_wishedColour := fun w h => List.mem_cons_of_mem _ (List.mem_append_right _ h)
  have f20 := hts (.fieldLink RX0 20 "PointColours" "wishes" "[I") (by decide +kernel)
  have f33 := hts (.fieldLink RX0 33 "PointColours" "colourOf" "[I") (by decide +kernel)
  by_cases hw : ws a = a
  · refine lv_aload_n hx hb dX0_wishedColour_0 rfl (lv_at hl 0 rfl) ?_
    refine va_get (D := D) (ci := 0) (v := .ref (ad 4)) (C := RX0) (T := TX0) (N := 11) hx hb hts hin hown hK hP 0 rfl rfl 6 (by decide) f20 (fun _ h9 => h9) rfl dX0_wishedColour_1 ?_
    refine lv_iload_n hx hb dX0_wishedColour_4 rfl (lv_at hl 1 rfl) ?_
    refine px_iald (n := 200) (i := a) hx hb hK hP 4 0 rfl rfl (by omega) (by decide) dX0_wishedColour_5 ?_
    refine px_top (y := -1) (by rw [hW, if_pos hw]) ?_
    refine lv_istore_n (lv' := [(2, .int (-1)), (0, .ref (ad 0)), (1, .int (nI a))]) hx hb dX0_wishedColour_6 rfl hl (by decide) rfl (fun ls hl => ?_)
    refine lv_aload_n hx hb dX0_wishedColour_7 rfl (lv_at hl 1 rfl) ?_
    refine lv_iload_n hx hb dX0_wishedColour_8 rfl (lv_at hl 0 rfl) ?_
    refine px_rd (ci := 0) (q := (RX0, TX0, 11)) (v := px_b (pm_pt n (-1))) (rest := []) S hP hK (tX0_isPoint (by omega) (-1)) (cwV 1 hts gX0_wishedColour_X0_isPoint rfl rfl rfl (by decide +kernel) ⟨by decide, by decide⟩) rfl rfl rfl hl.1 rfl (Nat.le_of_ble_eq_true rfl) dX0_wishedColour_9 ⟨Nat.zero_le _, Nat.zero_le _⟩ ?_
    refine px_eqb (tgt := 24) hx hb dX0_wishedColour_12 (by decide) (fun h12 => ?_) (fun h12 => ?_)
    rotate_left
    · exact absurd h12 (by rw [pm_pt_f1 (by decide +kernel)]; decide)
    refine lv_iconst (v := -1) hx hb dX0_wishedColour_24 (by decide +kernel) ?_
    exact px_ri hx hb hr hlk (by first | rw [if_pos hw] | rw [if_neg hw]) dX0_wishedColour_25
  · refine lv_aload_n hx hb dX0_wishedColour_0 rfl (lv_at hl 0 rfl) ?_
    refine va_get (D := D) (ci := 0) (v := .ref (ad 4)) (C := RX0) (T := TX0) (N := 11) hx hb hts hin hown hK hP 0 rfl rfl 6 (by decide) f20 (fun _ h9 => h9) rfl dX0_wishedColour_1 ?_
    refine lv_iload_n hx hb dX0_wishedColour_4 rfl (lv_at hl 1 rfl) ?_
    refine px_iald (n := 200) (i := a) hx hb hK hP 4 0 rfl rfl (by omega) (by decide) dX0_wishedColour_5 ?_
    refine px_top (y := nI (ws a)) (by rw [hW, if_neg hw]) ?_
    refine lv_istore_n (lv' := [(2, .int (nI (ws a))), (0, .ref (ad 0)), (1, .int (nI a))]) hx hb dX0_wishedColour_6 rfl hl (by decide) rfl (fun ls hl => ?_)
    refine lv_aload_n hx hb dX0_wishedColour_7 rfl (lv_at hl 1 rfl) ?_
    refine lv_iload_n hx hb dX0_wishedColour_8 rfl (lv_at hl 0 rfl) ?_
    refine px_rd (ci := 0) (q := (RX0, TX0, 11)) (v := px_b (pm_pt n (nI (ws a)))) (rest := []) S hP hK (tX0_isPoint (by omega) (nI (ws a))) (cwV 1 hts gX0_wishedColour_X0_isPoint rfl rfl rfl (by decide +kernel) ⟨by decide, by decide⟩) rfl rfl rfl hl.1 rfl (Nat.le_of_ble_eq_true rfl) dX0_wishedColour_9 ⟨Nat.zero_le _, Nat.zero_le _⟩ ?_
    refine px_eqb (tgt := 24) hx hb dX0_wishedColour_12 (by decide) (fun h12 => ?_) (fun h12 => ?_)
    · exact absurd h12 (by rw [pm_pt_nI (by omega)]; simp; omega)
    refine lv_aload_n hx hb dX0_wishedColour_15 rfl (lv_at hl 1 rfl) ?_
    refine va_get (D := D) (ci := 0) (v := .ref (ad 8)) (C := RX0) (T := TX0) (N := 11) hx hb hts hin hown hK hP 0 rfl rfl 10 (by decide) f33 (fun _ h9 => h9) rfl dX0_wishedColour_16 ?_
    refine lv_iload_n hx hb dX0_wishedColour_19 rfl (lv_at hl 0 rfl) ?_
    refine px_iald (n := 200) (i := (ws a)) hx hb hK hP 8 0 rfl rfl (by omega) (by decide) dX0_wishedColour_20 ?_
    refine lv_goto (tgt := 25) hx hb dX0_wishedColour_21 (by decide) ?_
    exact px_ri hx hb hr hlk (by first | rw [if_pos hw] | rw [if_neg hw]) dX0_wishedColour_25
set_option maxHeartbeats 4000000 in
set_option maxRecDepth 100000 in
theorem tX0_coloursAround {l : Launch} {D : va_G} {cI cJ cZ : ClassId} {ad : Nat → Nat} {n k : Nat} {gv : Int32} {E : Nat → Int64} {G C Wi O IO NI CF : Nat → Int32} (J : Nat → Nat → Bool) (hJ : ∀ a b, a < 200 → b < 200 → pm_ed E a b = J a b) (hn : n ≤ 200) (a : Nat) (ha : a < n) : RdI l yX0_coloursAround wsX0_coloursAround (rmd 2) D (tyq cI cJ cZ) [.ref (ad 0), .int (nI a)] (w0 cI cJ cZ ad (nI n) (nI k) gv E G C Wi O IO NI CF) (pm_mk J CF a n) := by
  refine px_met (cc := cX0_coloursAround) (maxL := 4) (ret := (some .int)) (lv := [(0, .ref (ad 0)), (1, .int (nI a))]) (by decide +kernel) rfl (Nat.le_of_ble_eq_true rfl) rfl ?_
  intro p e s m below meth c ls S hr hlk hnm hv hl
  obtain ⟨hx, hb, hml, hown, hts⟩ := id S
  obtain ⟨hP, hK⟩ := hv
  have hin : ∀ w ∈ wsX00, w ∈ wsX0_coloursAround := fun w h => List.mem_cons_of_mem _ (List.mem_append_right _ h)
  have f66 := hts (.fieldLink RX0 66 "PointColours" "points" "I") (by decide +kernel)
  have f33 := hts (.fieldLink RX0 33 "PointColours" "colourOf" "[I") (by decide +kernel)
  have loop : ∀ (f i : Nat), n + 1 ≤ i + f → i ≤ n → ∀ ls : Array Slot, lv_has ls 4 [(2, .int (pm_mk J CF a i)), (3, .int (nI i)), (1, .int (nI a)), (0, .ref (ad 0))] → W p l e (rmd 2) s m ([.ref (ad 0), .int (nI a)] : List Value).toArray below meth c s.heap [] 0 0 (MQ below (vp_Si (fun r => r = pm_mk J CF a n)) ([.ref (ad 0), .int (nI a)] : List Value).toArray s 0 0 (fun _ => False)) (F0 m 4 ls []) := by
    intro f
    induction f with
    | zero => intro i h1 h2; exact absurd h1 (by omega)
    | succ f ih =>
      intro i h1 h2 ls hl
      refine lv_iload_n hx hb dX0_coloursAround_4 rfl (lv_at hl 1 rfl) ?_
      refine lv_aload_n hx hb dX0_coloursAround_5 rfl (lv_at hl 3 rfl) ?_
      refine va_get (D := D) (ci := 0) (v := .int (nI n)) (C := RX0) (T := TX0) (N := 11) hx hb hts hin hown hK hP 0 rfl rfl 0 (by decide) f66 (fun _ h9 => h9) rfl dX0_coloursAround_6 ?_
      refine px_ge (tgt := 48) hx hb dX0_coloursAround_9 (by decide) (by omega) (by omega) (fun h9 => ?_) (fun h9 => ?_)
      · refine lv_iload_n hx hb dX0_coloursAround_48 rfl (lv_at hl 0 rfl) ?_
        obtain rfl : i = n := by omega
        exact px_ri hx hb hr hlk rfl dX0_coloursAround_49
      · refine lv_aload_n hx hb dX0_coloursAround_12 rfl (lv_at hl 3 rfl) ?_
        refine va_get (D := D) (ci := 0) (v := .ref (ad 8)) (C := RX0) (T := TX0) (N := 11) hx hb hts hin hown hK hP 0 rfl rfl 10 (by decide) f33 (fun _ h9 => h9) rfl dX0_coloursAround_13 ?_
        refine lv_iload_n hx hb dX0_coloursAround_16 rfl (lv_at hl 1 rfl) ?_
        refine px_iald (n := 200) (i := i) hx hb hK hP 8 0 rfl rfl (by omega) (by decide) dX0_coloursAround_17 ?_
        refine lv_iconst (v := -1) hx hb dX0_coloursAround_18 (by decide +kernel) ?_
        refine lv_icmp_eq (tgt := 42) hx hb dX0_coloursAround_19 (by decide) (fun h19 => ?_) (fun h19 => ?_)
        · refine lv_iinc (v := nI (i + 1)) (lv' := [(3, .int (nI (i + 1))), (2, .int (pm_mk J CF a i)), (1, .int (nI a)), (0, .ref (ad 0))]) hx hb dX0_coloursAround_42 hl (k := 1) rfl (px_inc1 _) (by decide) rfl (fun ls hl => ?_)
          refine lv_goto (tgt := 4) hx hb dX0_coloursAround_45 (by decide) ?_
          exact ih (i + 1) (by omega) (by omega) ls (by rw [pm_mk]; first | (rw [if_pos h19]; exact lv_sub hl [1, 0, 2, 3] rfl) | (rw [if_neg h19, if_pos h28]; exact lv_sub hl [1, 0, 2, 3] rfl) | (rw [if_neg h19, if_neg (by rw [h28]; decide)]; exact lv_sub hl [1, 0, 2, 3] rfl))
        · refine lv_aload_n hx hb dX0_coloursAround_22 rfl (lv_at hl 3 rfl) ?_
          refine lv_iload_n hx hb dX0_coloursAround_23 rfl (lv_at hl 2 rfl) ?_
          refine lv_iload_n hx hb dX0_coloursAround_24 rfl (lv_at hl 1 rfl) ?_
          refine px_rd (ci := 0) (q := (RX0, TX0, 11)) (v := px_b (J a i)) (rest := []) S hP hK (tX0_hasEdge J hJ a i (by omega) (by omega)) (cwV 2 hts gX0_coloursAround_X0_hasEdge rfl rfl rfl (by decide +kernel) ⟨by decide, by decide⟩) rfl rfl rfl hl.1 rfl (Nat.le_of_ble_eq_true rfl) dX0_coloursAround_25 ⟨Nat.zero_le _, Nat.zero_le _⟩ ?_
          refine px_eqb (tgt := 42) hx hb dX0_coloursAround_28 (by decide) (fun h28 => ?_) (fun h28 => ?_)
          · refine lv_iinc (v := nI (i + 1)) (lv' := [(3, .int (nI (i + 1))), (2, .int (pm_mk J CF a i)), (1, .int (nI a)), (0, .ref (ad 0))]) hx hb dX0_coloursAround_42 hl (k := 1) rfl (px_inc1 _) (by decide) rfl (fun ls hl => ?_)
            refine lv_goto (tgt := 4) hx hb dX0_coloursAround_45 (by decide) ?_
            exact ih (i + 1) (by omega) (by omega) ls (by rw [pm_mk]; first | (rw [if_pos h19]; exact lv_sub hl [1, 0, 2, 3] rfl) | (rw [if_neg h19, if_pos h28]; exact lv_sub hl [1, 0, 2, 3] rfl) | (rw [if_neg h19, if_neg (by rw [h28]; decide)]; exact lv_sub hl [1, 0, 2, 3] rfl))
          · refine lv_iload_n hx hb dX0_coloursAround_31 rfl (lv_at hl 0 rfl) ?_
            refine lv_iconst (v := 1) hx hb dX0_coloursAround_32 (by decide +kernel) ?_
            refine lv_aload_n hx hb dX0_coloursAround_33 rfl (lv_at hl 3 rfl) ?_
            refine va_get (D := D) (ci := 0) (v := .ref (ad 8)) (C := RX0) (T := TX0) (N := 11) hx hb hts hin hown hK hP 0 rfl rfl 10 (by decide) f33 (fun _ h9 => h9) rfl dX0_coloursAround_34 ?_
            refine lv_iload_n hx hb dX0_coloursAround_37 rfl (lv_at hl 1 rfl) ?_
            refine px_iald (n := 200) (i := i) hx hb hK hP 8 0 rfl rfl (by omega) (by decide) dX0_coloursAround_38 ?_
            refine lv_ishl hx hb dX0_coloursAround_39 ?_
            refine lv_ior hx hb dX0_coloursAround_40 ?_
            refine lv_istore_n (lv' := [(2, .int ((pm_mk J CF a i) ||| (1 <<< ((CF i) &&& 31)))), (3, .int (nI i)), (1, .int (nI a)), (0, .ref (ad 0))]) hx hb dX0_coloursAround_41 rfl hl (by decide) rfl (fun ls hl => ?_)
            refine lv_iinc (v := nI (i + 1)) (lv' := [(3, .int (nI (i + 1))), (2, .int ((pm_mk J CF a i) ||| (1 <<< ((CF i) &&& 31)))), (1, .int (nI a)), (0, .ref (ad 0))]) hx hb dX0_coloursAround_42 hl (k := 1) rfl (px_inc1 _) (by decide) rfl (fun ls hl => ?_)
            refine lv_goto (tgt := 4) hx hb dX0_coloursAround_45 (by decide) ?_
            exact ih (i + 1) (by omega) (by omega) ls (by rw [pm_mk]; first | (rw [if_pos h19]; exact lv_sub hl [1, 0, 2, 3] rfl) | (rw [if_neg h19, if_pos h28]; exact lv_sub hl [1, 0, 2, 3] rfl) | (rw [if_neg h19, if_neg (by rw [h28]; decide)]; exact lv_sub hl [1, 0, 2, 3] rfl))
  refine lv_iconst (v := 0) hx hb dX0_coloursAround_0 (by decide +kernel) ?_
  refine lv_istore_n (lv' := [(2, .int 0), (0, .ref (ad 0)), (1, .int (nI a))]) hx hb dX0_coloursAround_1 rfl hl (by decide) rfl (fun ls hl => ?_)
  refine lv_iconst (v := nI 0) hx hb dX0_coloursAround_2 (by decide +kernel) ?_
  refine lv_istore_n (lv' := [(3, .int (nI 0)), (2, .int 0), (0, .ref (ad 0)), (1, .int (nI a))]) hx hb dX0_coloursAround_3 rfl hl (by decide) rfl (fun ls hl => ?_)
  exact loop (n + 1) 0 (by omega) (by omega) ls (lv_sub hl [1, 0, 3, 2] rfl)
set_option maxHeartbeats 4000000 in
set_option maxRecDepth 100000 in
theorem tX0_chooseColour {l : Launch} {D : va_G} {cI cJ cZ : ClassId} {ad : Nat → Nat} {n k : Nat} {gv : Int32} {E : Nat → Int64} {G C Wi O IO NI CF : Nat → Int32} (J : Nat → Nat → Bool) (hJ : ∀ a b, a < 200 → b < 200 → pm_ed E a b = J a b) (ws : Nat → Nat) (hn : n ≤ 200) (hk : k ≤ 30) (a : Nat) (ha : a < n) (hwn : ws a < n) (hW : Wi a = if ws a = a then -1 else nI (ws a)) (hcf : ∀ b, b < n → pm_ok k (CF b)) : RdI l yX0_chooseColour wsX0_chooseColour (rmd 3) D (tyq cI cJ cZ) [.ref (ad 0), .int (nI a)] (w0 cI cJ cZ ad (nI n) (nI k) gv E G C Wi O IO NI CF) (pm_ch J n k ws CF a) := by
  refine px_met (cc := cX0_chooseColour) (maxL := 5) (ret := (some .int)) (lv := [(0, .ref (ad 0)), (1, .int (nI a))]) (by decide +kernel) rfl (Nat.le_of_ble_eq_true rfl) rfl ?_
  intro p e s m below meth c ls S hr hlk hnm hv hl
  obtain ⟨hx, hb, hml, hown, hts⟩ := id S
  obtain ⟨hP, hK⟩ := hv
  have hin : ∀ w ∈ wsX00, w ∈ wsX0_chooseColour := fun w h => List.mem_cons_of_mem _ (List.mem_append_right _ h)
  have f70 := hts (.fieldLink RX0 70 "PointColours" "colours" "I") (by decide +kernel)
  have hok : pm_ok k (if ws a = a then -1 else CF (ws a)) := by
    by_cases q : ws a = a
    · rw [if_pos q]; exact Or.inl rfl
    · rw [if_neg q]; exact hcf _ hwn
  have loop : ∀ (f i : Nat), ¬ (ws a ≠ a ∧ ¬ CF (ws a) < 0 ∧ pm_fr J CF a (CF (ws a)) n = true) → k + 1 ≤ i + f → i ≤ k → pm_ft (fun c => pm_fr J CF a (nI c) n) i = none → ∀ ls : Array Slot, lv_has ls 5 [(4, .int (nI i)), (2, .int (pm_mk J CF a n)), (1, .int (nI a)), (0, .ref (ad 0))] → W p l e (rmd 3) s m ([.ref (ad 0), .int (nI a)] : List Value).toArray below meth c s.heap [] 0 0 (MQ below (vp_Si (fun r => r = pm_ch J n k ws CF a)) ([.ref (ad 0), .int (nI a)] : List Value).toArray s 0 0 (fun _ => False)) (F0 m 30 ls []) := by
    intro f
    induction f with
    | zero => intro i _ h1 h2; exact absurd h1 (by omega)
    | succ f ih =>
      intro i hno h1 h2 hft ls hl
      have ih := fun i => ih i hno
      refine lv_iload hx hb dX0_chooseColour_30 (lv_at hl 0 rfl) ?_
      refine lv_aload_n hx hb dX0_chooseColour_32 rfl (lv_at hl 3 rfl) ?_
      refine va_get (D := D) (ci := 0) (v := .int (nI k)) (C := RX0) (T := TX0) (N := 11) hx hb hts hin hown hK hP 0 rfl rfl 1 (by decide) f70 (fun _ h9 => h9) rfl dX0_chooseColour_33 ?_
      refine px_ge (tgt := 57) hx hb dX0_chooseColour_36 (by decide) (by omega) (by omega) (fun h36 => ?_) (fun h36 => ?_)
      · refine lv_iconst (v := -1) hx hb dX0_chooseColour_57 (by decide +kernel) ?_
        obtain rfl : i = k := by omega
        exact px_ri hx hb hr hlk (by rw [pm_ch, if_neg hno, hft]; rfl) dX0_chooseColour_58
      · refine lv_iload hx hb dX0_chooseColour_39 (lv_at hl 0 rfl) ?_
        refine lv_iload_n hx hb dX0_chooseColour_41 rfl (lv_at hl 1 rfl) ?_
        refine px_pu (v := px_b (!(pm_mk J CF a n).toBitVec.getLsbD i)) (rest := []) S (tX0_isFree i (pm_mk J CF a n) (by omega)) (va_cwS 2 hts gX0_chooseColour_X0_isFree rfl rfl rfl (by decide +kernel) ⟨by decide, by decide⟩) rfl hl.1 rfl (Nat.le_of_ble_eq_true rfl) dX0_chooseColour_42 ⟨Nat.zero_le _, Nat.zero_le _⟩ ?_
        refine px_eqb (tgt := 51) hx hb dX0_chooseColour_45 (by decide) (fun h45 => ?_) (fun h45 => ?_)
        · refine lv_iinc (v := nI (i + 1)) (lv' := [(4, .int (nI (i + 1))), (2, .int (pm_mk J CF a n)), (1, .int (nI a)), (0, .ref (ad 0))]) hx hb dX0_chooseColour_51 hl (k := 0) rfl (px_inc1 _) (by decide) rfl (fun ls hl => ?_)
          refine lv_goto (tgt := 30) hx hb dX0_chooseColour_54 (by decide) ?_
          exact ih (i + 1) (by omega) (by omega) (pm_ft_none hft (by rw [pm_mk_bit hk (by omega) n hcf] at h45; simpa using h45)) ls (lv_sub hl [0, 1, 2, 3] rfl)
        · refine lv_iload hx hb dX0_chooseColour_48 (lv_at hl 0 rfl) ?_
          exact px_ri hx hb hr hlk (by
          rw [pm_mk_bit hk (by omega) n hcf] at h45
          rw [pm_ch, if_neg hno, pm_ft_here (f := (fun c => pm_fr J CF a (nI c) n)) hft (by simpa using h45) (by omega)]; rfl) dX0_chooseColour_50
  refine lv_aload_n hx hb dX0_chooseColour_0 rfl (lv_at hl 0 rfl) ?_
  refine lv_iload_n hx hb dX0_chooseColour_1 rfl (lv_at hl 1 rfl) ?_
  refine px_rd (ci := 0) (q := (RX0, TX0, 11)) (v := pm_mk J CF a n) (rest := []) S hP hK (tX0_coloursAround J hJ hn a ha) (cwV 1 hts gX0_chooseColour_X0_coloursAround rfl rfl rfl (by decide +kernel) ⟨by decide, by decide⟩) rfl rfl rfl hl.1 rfl (Nat.le_of_ble_eq_true rfl) dX0_chooseColour_2 ⟨Nat.zero_le _, Nat.zero_le _⟩ ?_
  refine lv_istore_n (lv' := [(2, .int (pm_mk J CF a n)), (0, .ref (ad 0)), (1, .int (nI a))]) hx hb dX0_chooseColour_5 rfl hl (by decide) rfl (fun ls hl => ?_)
  refine lv_aload_n hx hb dX0_chooseColour_6 rfl (lv_at hl 1 rfl) ?_
  refine lv_iload_n hx hb dX0_chooseColour_7 rfl (lv_at hl 2 rfl) ?_
  refine px_rd (ci := 0) (q := (RX0, TX0, 11)) (v := if ws a = a then -1 else CF (ws a)) (rest := []) S hP hK (tX0_wishedColour ws hn a ha hwn hW) (cwV 1 hts gX0_chooseColour_X0_wishedColour rfl rfl rfl (by decide +kernel) ⟨by decide, by decide⟩) rfl rfl rfl hl.1 rfl (Nat.le_of_ble_eq_true rfl) dX0_chooseColour_8 ⟨Nat.zero_le _, Nat.zero_le _⟩ ?_
  refine lv_istore_n (lv' := [(3, .int (if ws a = a then -1 else CF (ws a))), (2, .int (pm_mk J CF a n)), (0, .ref (ad 0)), (1, .int (nI a))]) hx hb dX0_chooseColour_11 rfl hl (by decide) rfl (fun ls hl => ?_)
  rcases (hok : pm_ok k (if ws a = a then -1 else CF (ws a))) with hq | ⟨c0, hc0, hq⟩
  · have hl : lv_has ls 5 [(3, .int (-1)), (2, .int (pm_mk J CF a n)), (0, .ref (ad 0)), (1, .int (nI a))] := by rw [hq] at hl; exact hl
    refine lv_iload_n hx hb dX0_chooseColour_12 rfl (lv_at hl 0 rfl) ?_
    refine lv_iconst (v := -1) hx hb dX0_chooseColour_13 (by decide +kernel) ?_
    refine lv_icmp_eq (tgt := 27) hx hb dX0_chooseColour_14 (by decide) (fun h14 => ?_) (fun h14 => ?_)
    rotate_left
    · exact absurd rfl h14
    refine lv_iconst (v := nI 0) hx hb dX0_chooseColour_27 (by decide +kernel) ?_
    refine lv_istore (lv' := [(4, .int (nI 0)), (3, .int (-1)), (2, .int (pm_mk J CF a n)), (0, .ref (ad 0)), (1, .int (nI a))]) hx hb dX0_chooseColour_28 hl (by decide) rfl (fun ls hl => ?_)
    exact loop (k + 1) 0 (by intro hh; rw [if_neg hh.1] at hq; exact hh.2.1 (by rw [hq]; decide +kernel)) (by omega) (by omega) rfl ls (lv_sub hl [0, 2, 4, 3] rfl)
  · have hl : lv_has ls 5 [(3, .int (nI c0)), (2, .int (pm_mk J CF a n)), (0, .ref (ad 0)), (1, .int (nI a))] := by rw [hq] at hl; exact hl
    refine lv_iload_n hx hb dX0_chooseColour_12 rfl (lv_at hl 0 rfl) ?_
    refine lv_iconst (v := -1) hx hb dX0_chooseColour_13 (by decide +kernel) ?_
    refine lv_icmp_eq (tgt := 27) hx hb dX0_chooseColour_14 (by decide) (fun h14 => ?_) (fun h14 => ?_)
    · exact absurd h14 (pm_m1 (by omega))
    refine lv_iload_n hx hb dX0_chooseColour_17 rfl (lv_at hl 0 rfl) ?_
    refine lv_iload_n hx hb dX0_chooseColour_18 rfl (lv_at hl 1 rfl) ?_
    refine px_pu (v := px_b (!(pm_mk J CF a n).toBitVec.getLsbD c0)) (rest := []) S (tX0_isFree c0 (pm_mk J CF a n) (by omega)) (va_cwS 2 hts gX0_chooseColour_X0_isFree rfl rfl rfl (by decide +kernel) ⟨by decide, by decide⟩) rfl hl.1 rfl (Nat.le_of_ble_eq_true rfl) dX0_chooseColour_19 ⟨Nat.zero_le _, Nat.zero_le _⟩ ?_
    refine px_eqb (tgt := 27) hx hb dX0_chooseColour_22 (by decide) (fun h22 => ?_) (fun h22 => ?_)
    · refine lv_iconst (v := nI 0) hx hb dX0_chooseColour_27 (by decide +kernel) ?_
      refine lv_istore (lv' := [(4, .int (nI 0)), (3, .int (nI c0)), (2, .int (pm_mk J CF a n)), (0, .ref (ad 0)), (1, .int (nI a))]) hx hb dX0_chooseColour_28 hl (by decide) rfl (fun ls hl => ?_)
      exact loop (k + 1) 0 (by intro hh; rw [if_neg hh.1] at hq; rw [hq, ← Bool.not_eq_eq_eq_not.mpr (pm_mk_bit hk (by omega) n hcf)] at hh; rw [hh.2.2] at h22; cases h22) (by omega) (by omega) rfl ls (lv_sub hl [0, 2, 4, 3] rfl)
    · refine lv_iload_n hx hb dX0_chooseColour_25 rfl (lv_at hl 0 rfl) ?_
      exact px_ri hx hb hr hlk (by
          have hw : ws a ≠ a := fun q => by rw [if_pos q] at hq; exact pm_m1 (j := c0) (by omega) hq.symm
          rw [if_neg hw] at hq
          rw [pm_mk_bit hk (by omega) n hcf] at h22
          rw [pm_ch, if_pos ⟨hw, by rw [hq]; exact nI_pos (by omega), by rw [hq]; simpa using h22⟩, hq]) dX0_chooseColour_26
end
section
theorem pm_sy0 (J : Nat → Nat → Bool) (col : Nat → Int32) (a : Nat) : ∀ i, i ≤ a + 1 → pm_cn (pm_sy J col a) i = 0 := by
  intro i
  induction i with
  | zero => intro _; rfl
  | succ i ih =>
    intro h
    rw [pm_cn_0 (by simp [pm_sy]; omega), ih (by omega)]
theorem pm_sy1 {J : Nat → Nat → Bool} {col : Nat → Int32} {a b : Nat} (h : pm_sy J col a b = true) (x : Nat) : x + pm_cn (pm_sy J col a) b + 1 = x + pm_cn (pm_sy J col a) (b + 1) := by rw [pm_cn_1 h]; omega
theorem pm_sy2 {J : Nat → Nat → Bool} {col : Nat → Int32} {a b : Nat} (h : pm_sy J col a b = false) (x : Nat) : x + pm_cn (pm_sy J col a) b = x + pm_cn (pm_sy J col a) (b + 1) := by rw [pm_cn_0 h]
def pm_jd (n : Nat) (J : Nat → Nat → Bool) (a b : Int32) : Bool := pm_pt n a && pm_pt n b && J a.toNatClampNeg b.toNatClampNeg
set_option maxHeartbeats 4000000 in
set_option maxRecDepth 100000 in
theorem tX0_colour {l : Launch} {D : va_G} {cI cJ cZ : ClassId} {ad : Nat → Nat} {n k : Nat} {g : Bool} {E : Nat → Int64} {G C Wi O IO NI CF : Nat → Int32} (hn : n ≤ 200) (a : Int32) : RdI l yX0_colour wsX0_colour (rmd 1) D (tyq cI cJ cZ) [.ref (ad 0), .int a] (w0 cI cJ cZ ad (nI n) (nI k) (px_b g) E G C Wi O IO NI CF) (pm_rd g n CF a) := by
  refine px_met (cc := cX0_colour) (maxL := 2) (ret := (some .int)) (lv := [(0, .ref (ad 0)), (1, .int a)]) (by decide +kernel) rfl (Nat.le_of_ble_eq_true rfl) rfl ?_
  intro p e s m below meth c ls S hr hlk hnm hv hl
  obtain ⟨hx, hb, hml, hown, hts⟩ := id S
  obtain ⟨hP, hK⟩ := hv
  have hin : ∀ w ∈ wsX00, w ∈ wsX0_colour := fun w h => List.mem_cons_of_mem _ (List.mem_append_right _ h)
  have f51 := hts (.fieldLink RX0 51 "PointColours" "given" "Z") (by decide +kernel)
  have f33 := hts (.fieldLink RX0 33 "PointColours" "colourOf" "[I") (by decide +kernel)
  refine lv_aload_n hx hb dX0_colour_0 rfl (lv_at hl 0 rfl) ?_
  refine va_get (D := D) (ci := 0) (v := .int (px_b g)) (C := RX0) (T := TX0) (N := 11) hx hb hts hin hown hK hP 0 rfl rfl 2 (by decide) f51 (fun _ h9 => h9) rfl dX0_colour_1 ?_
  refine px_eqb (tgt := 24) hx hb dX0_colour_4 (by decide) (fun h4 => ?_) (fun h4 => ?_)
  · refine lv_iconst (v := -1) hx hb dX0_colour_24 (by decide +kernel) ?_
    exact px_ri hx hb hr hlk (by first | rw [pm_rd_n h12] | (rw [h4]; exact pm_rd_g.symm)) dX0_colour_25
  · refine lv_aload_n hx hb dX0_colour_7 rfl (lv_at hl 0 rfl) ?_
    refine lv_iload_n hx hb dX0_colour_8 rfl (lv_at hl 1 rfl) ?_
    refine px_rd (ci := 0) (q := (RX0, TX0, 11)) (v := px_b (pm_pt n a)) (rest := []) S hP hK (tX0_isPoint (by omega) a) (cwV 1 hts gX0_colour_X0_isPoint rfl rfl rfl (by decide +kernel) ⟨by decide, by decide⟩) rfl rfl rfl hl.1 rfl (Nat.le_of_ble_eq_true rfl) dX0_colour_9 ⟨Nat.zero_le _, Nat.zero_le _⟩ ?_
    refine px_eqb (tgt := 24) hx hb dX0_colour_12 (by decide) (fun h12 => ?_) (fun h12 => ?_)
    · refine lv_iconst (v := -1) hx hb dX0_colour_24 (by decide +kernel) ?_
      exact px_ri hx hb hr hlk (by first | rw [pm_rd_n h12] | (rw [h4]; exact pm_rd_g.symm)) dX0_colour_25
    · obtain ⟨j, hj, rfl⟩ := pm_pt_of (by omega) h12
      refine lv_aload_n hx hb dX0_colour_15 rfl (lv_at hl 0 rfl) ?_
      refine va_get (D := D) (ci := 0) (v := .ref (ad 8)) (C := RX0) (T := TX0) (N := 11) hx hb hts hin hown hK hP 0 rfl rfl 10 (by decide) f33 (fun _ h9 => h9) rfl dX0_colour_16 ?_
      refine lv_iload_n hx hb dX0_colour_19 rfl (lv_at hl 1 rfl) ?_
      refine px_iald (n := 200) (i := j) hx hb hK hP 8 0 rfl rfl (by omega) (by decide) dX0_colour_20 ?_
      refine lv_goto (tgt := 25) hx hb dX0_colour_21 (by decide) ?_
      exact px_ri hx hb hr hlk (by rw [h4]; rw [pm_rd_t (by omega) hj]) dX0_colour_25
set_option maxHeartbeats 4000000 in
set_option maxRecDepth 100000 in
theorem tX0_taken {l : Launch} {D : va_G} {cI cJ cZ : ClassId} {ad : Nat → Nat} {n k : Nat} {g : Bool} {E : Nat → Int64} {G C Wi O IO NI CF : Nat → Int32} (hn : n ≤ 200) (a : Int32) : RdI l yX0_taken wsX0_taken (rmd 1) D (tyq cI cJ cZ) [.ref (ad 0), .int a] (w0 cI cJ cZ ad (nI n) (nI k) (px_b g) E G C Wi O IO NI CF) (pm_rd g n O a) := by
  refine px_met (cc := cX0_taken) (maxL := 2) (ret := (some .int)) (lv := [(0, .ref (ad 0)), (1, .int a)]) (by decide +kernel) rfl (Nat.le_of_ble_eq_true rfl) rfl ?_
  intro p e s m below meth c ls S hr hlk hnm hv hl
  obtain ⟨hx, hb, hml, hown, hts⟩ := id S
  obtain ⟨hP, hK⟩ := hv
  have hin : ∀ w ∈ wsX00, w ∈ wsX0_taken := fun w h => List.mem_cons_of_mem _ (List.mem_append_right _ h)
  have f51 := hts (.fieldLink RX0 51 "PointColours" "given" "Z") (by decide +kernel)
  have f23 := hts (.fieldLink RX0 23 "PointColours" "order" "[I") (by decide +kernel)
  refine lv_aload_n hx hb dX0_taken_0 rfl (lv_at hl 0 rfl) ?_
  refine va_get (D := D) (ci := 0) (v := .int (px_b g)) (C := RX0) (T := TX0) (N := 11) hx hb hts hin hown hK hP 0 rfl rfl 2 (by decide) f51 (fun _ h9 => h9) rfl dX0_taken_1 ?_
  refine px_eqb (tgt := 24) hx hb dX0_taken_4 (by decide) (fun h4 => ?_) (fun h4 => ?_)
  · refine lv_iconst (v := -1) hx hb dX0_taken_24 (by decide +kernel) ?_
    exact px_ri hx hb hr hlk (by first | rw [pm_rd_n h12] | (rw [h4]; exact pm_rd_g.symm)) dX0_taken_25
  · refine lv_aload_n hx hb dX0_taken_7 rfl (lv_at hl 0 rfl) ?_
    refine lv_iload_n hx hb dX0_taken_8 rfl (lv_at hl 1 rfl) ?_
    refine px_rd (ci := 0) (q := (RX0, TX0, 11)) (v := px_b (pm_pt n a)) (rest := []) S hP hK (tX0_isPoint (by omega) a) (cwV 1 hts gX0_taken_X0_isPoint rfl rfl rfl (by decide +kernel) ⟨by decide, by decide⟩) rfl rfl rfl hl.1 rfl (Nat.le_of_ble_eq_true rfl) dX0_taken_9 ⟨Nat.zero_le _, Nat.zero_le _⟩ ?_
    refine px_eqb (tgt := 24) hx hb dX0_taken_12 (by decide) (fun h12 => ?_) (fun h12 => ?_)
    · refine lv_iconst (v := -1) hx hb dX0_taken_24 (by decide +kernel) ?_
      exact px_ri hx hb hr hlk (by first | rw [pm_rd_n h12] | (rw [h4]; exact pm_rd_g.symm)) dX0_taken_25
    · obtain ⟨j, hj, rfl⟩ := pm_pt_of (by omega) h12
      refine lv_aload_n hx hb dX0_taken_15 rfl (lv_at hl 0 rfl) ?_
      refine va_get (D := D) (ci := 0) (v := .ref (ad 5)) (C := RX0) (T := TX0) (N := 11) hx hb hts hin hown hK hP 0 rfl rfl 7 (by decide) f23 (fun _ h9 => h9) rfl dX0_taken_16 ?_
      refine lv_iload_n hx hb dX0_taken_19 rfl (lv_at hl 1 rfl) ?_
      refine px_iald (n := 200) (i := j) hx hb hK hP 5 0 rfl rfl (by omega) (by decide) dX0_taken_20 ?_
      refine lv_goto (tgt := 25) hx hb dX0_taken_21 (by decide) ?_
      exact px_ri hx hb hr hlk (by rw [h4]; rw [pm_rd_t (by omega) hj]) dX0_taken_25
set_option maxHeartbeats 4000000 in
set_option maxRecDepth 100000 in
theorem tX1_colour {l : Launch} {D : va_G} {cI cJ cZ : ClassId} {bd : Nat → Nat} {n k : Nat} {g : Bool} {PA C Wi CO RW IN : Nat → Int32} (hn : n ≤ 200) (a : Int32) : RdI l yX1_colour wsX1_colour (rmd 1) D (tyq cI cJ cZ) [.ref (bd 0), .int a] (w1 cI cZ bd (nI n) (nI k) (px_b g) PA C Wi CO RW IN) (pm_rd g n CO a) := by
  refine px_met (cc := cX1_colour) (maxL := 2) (ret := (some .int)) (lv := [(0, .ref (bd 0)), (1, .int a)]) (by decide +kernel) rfl (Nat.le_of_ble_eq_true rfl) rfl ?_
  intro p e s m below meth c ls S hr hlk hnm hv hl
  obtain ⟨hx, hb, hml, hown, hts⟩ := id S
  obtain ⟨hP, hK⟩ := hv
  have hin : ∀ w ∈ wsX10, w ∈ wsX1_colour := fun w h => List.mem_cons_of_mem _ (List.mem_append_right _ h)
  have f41 := hts (.fieldLink RX1 41 "PointColoursModel" "given" "Z") (by decide +kernel)
  have f21 := hts (.fieldLink RX1 21 "PointColoursModel" "colours" "[I") (by decide +kernel)
  refine lv_aload_n hx hb dX1_colour_0 rfl (lv_at hl 0 rfl) ?_
  refine va_get (D := D) (ci := 1) (v := .int (px_b g)) (C := RX1) (T := TX1) (N := 9) hx hb hts hin hown hK hP 0 rfl rfl 8 (by decide) f41 (fun _ h9 => h9) rfl dX1_colour_1 ?_
  refine px_eqb (tgt := 24) hx hb dX1_colour_4 (by decide) (fun h4 => ?_) (fun h4 => ?_)
  · refine lv_iconst (v := -1) hx hb dX1_colour_24 (by decide +kernel) ?_
    exact px_ri hx hb hr hlk (by first | rw [pm_rd_n h12] | (rw [h4]; exact pm_rd_g.symm)) dX1_colour_25
  · refine lv_aload_n hx hb dX1_colour_7 rfl (lv_at hl 0 rfl) ?_
    refine lv_iload_n hx hb dX1_colour_8 rfl (lv_at hl 1 rfl) ?_
    refine px_rd (ci := 1) (q := (RX1, TX1, 9)) (v := px_b (pm_pt n a)) (rest := []) S hP hK (tX1_isPoint (by omega) a) (cwV 1 hts gX1_colour_X1_isPoint rfl rfl rfl (by decide +kernel) ⟨by decide, by decide⟩) rfl rfl rfl hl.1 rfl (Nat.le_of_ble_eq_true rfl) dX1_colour_9 ⟨Nat.zero_le _, Nat.zero_le _⟩ ?_
    refine px_eqb (tgt := 24) hx hb dX1_colour_12 (by decide) (fun h12 => ?_) (fun h12 => ?_)
    · refine lv_iconst (v := -1) hx hb dX1_colour_24 (by decide +kernel) ?_
      exact px_ri hx hb hr hlk (by first | rw [pm_rd_n h12] | (rw [h4]; exact pm_rd_g.symm)) dX1_colour_25
    · obtain ⟨j, hj, rfl⟩ := pm_pt_of (by omega) h12
      refine lv_aload_n hx hb dX1_colour_15 rfl (lv_at hl 0 rfl) ?_
      refine va_get (D := D) (ci := 1) (v := .ref (bd 4)) (C := RX1) (T := TX1) (N := 9) hx hb hts hin hown hK hP 0 rfl rfl 3 (by decide) f21 (fun _ h9 => h9) rfl dX1_colour_16 ?_
      refine lv_iload_n hx hb dX1_colour_19 rfl (lv_at hl 1 rfl) ?_
      refine px_iald (n := 200) (i := j) hx hb hK hP 4 0 rfl rfl (by omega) (by decide) dX1_colour_20 ?_
      refine lv_goto (tgt := 25) hx hb dX1_colour_21 (by decide) ?_
      exact px_ri hx hb hr hlk (by rw [h4]; rw [pm_rd_t (by omega) hj]) dX1_colour_25
set_option maxHeartbeats 4000000 in
set_option maxRecDepth 100000 in
theorem tX1_taken {l : Launch} {D : va_G} {cI cJ cZ : ClassId} {bd : Nat → Nat} {n k : Nat} {g : Bool} {PA C Wi CO RW IN : Nat → Int32} (hn : n ≤ 200) (a : Int32) : RdI l yX1_taken wsX1_taken (rmd 1) D (tyq cI cJ cZ) [.ref (bd 0), .int a] (w1 cI cZ bd (nI n) (nI k) (px_b g) PA C Wi CO RW IN) (pm_rd g n RW a) := by
  refine px_met (cc := cX1_taken) (maxL := 2) (ret := (some .int)) (lv := [(0, .ref (bd 0)), (1, .int a)]) (by decide +kernel) rfl (Nat.le_of_ble_eq_true rfl) rfl ?_
  intro p e s m below meth c ls S hr hlk hnm hv hl
  obtain ⟨hx, hb, hml, hown, hts⟩ := id S
  obtain ⟨hP, hK⟩ := hv
  have hin : ∀ w ∈ wsX10, w ∈ wsX1_taken := fun w h => List.mem_cons_of_mem _ (List.mem_append_right _ h)
  have f41 := hts (.fieldLink RX1 41 "PointColoursModel" "given" "Z") (by decide +kernel)
  have f24 := hts (.fieldLink RX1 24 "PointColoursModel" "row" "[I") (by decide +kernel)
  refine lv_aload_n hx hb dX1_taken_0 rfl (lv_at hl 0 rfl) ?_
  refine va_get (D := D) (ci := 1) (v := .int (px_b g)) (C := RX1) (T := TX1) (N := 9) hx hb hts hin hown hK hP 0 rfl rfl 8 (by decide) f41 (fun _ h9 => h9) rfl dX1_taken_1 ?_
  refine px_eqb (tgt := 24) hx hb dX1_taken_4 (by decide) (fun h4 => ?_) (fun h4 => ?_)
  · refine lv_iconst (v := -1) hx hb dX1_taken_24 (by decide +kernel) ?_
    exact px_ri hx hb hr hlk (by first | rw [pm_rd_n h12] | (rw [h4]; exact pm_rd_g.symm)) dX1_taken_25
  · refine lv_aload_n hx hb dX1_taken_7 rfl (lv_at hl 0 rfl) ?_
    refine lv_iload_n hx hb dX1_taken_8 rfl (lv_at hl 1 rfl) ?_
    refine px_rd (ci := 1) (q := (RX1, TX1, 9)) (v := px_b (pm_pt n a)) (rest := []) S hP hK (tX1_isPoint (by omega) a) (cwV 1 hts gX1_taken_X1_isPoint rfl rfl rfl (by decide +kernel) ⟨by decide, by decide⟩) rfl rfl rfl hl.1 rfl (Nat.le_of_ble_eq_true rfl) dX1_taken_9 ⟨Nat.zero_le _, Nat.zero_le _⟩ ?_
    refine px_eqb (tgt := 24) hx hb dX1_taken_12 (by decide) (fun h12 => ?_) (fun h12 => ?_)
    · refine lv_iconst (v := -1) hx hb dX1_taken_24 (by decide +kernel) ?_
      exact px_ri hx hb hr hlk (by first | rw [pm_rd_n h12] | (rw [h4]; exact pm_rd_g.symm)) dX1_taken_25
    · obtain ⟨j, hj, rfl⟩ := pm_pt_of (by omega) h12
      refine lv_aload_n hx hb dX1_taken_15 rfl (lv_at hl 0 rfl) ?_
      refine va_get (D := D) (ci := 1) (v := .ref (bd 5)) (C := RX1) (T := TX1) (N := 9) hx hb hts hin hown hK hP 0 rfl rfl 4 (by decide) f24 (fun _ h9 => h9) rfl dX1_taken_16 ?_
      refine lv_iload_n hx hb dX1_taken_19 rfl (lv_at hl 1 rfl) ?_
      refine px_iald (n := 200) (i := j) hx hb hK hP 5 0 rfl rfl (by omega) (by decide) dX1_taken_20 ?_
      refine lv_goto (tgt := 25) hx hb dX1_taken_21 (by decide) ?_
      exact px_ri hx hb hr hlk (by rw [h4]; rw [pm_rd_t (by omega) hj]) dX1_taken_25
set_option maxHeartbeats 4000000 in
set_option maxRecDepth 100000 in
theorem tX0_degree {l : Launch} {D : va_G} {cI cJ cZ : ClassId} {ad : Nat → Nat} {n k : Nat} {gv : Int32} {E : Nat → Int64} {G C Wi O IO NI CF : Nat → Int32} (hn : n ≤ 200) (a : Int32) : RdI l yX0_degree wsX0_degree (rmd 1) D (tyq cI cJ cZ) [.ref (ad 0), .int a] (w0 cI cJ cZ ad (nI n) (nI k) gv E G C Wi O IO NI CF) (pm_rd true n G a) := by
  refine px_met (cc := cX0_degree) (maxL := 2) (ret := (some .int)) (lv := [(0, .ref (ad 0)), (1, .int a)]) (by decide +kernel) rfl (Nat.le_of_ble_eq_true rfl) rfl ?_
  intro p e s m below meth c ls S hr hlk hnm hv hl
  obtain ⟨hx, hb, hml, hown, hts⟩ := id S
  obtain ⟨hP, hK⟩ := hv
  have hin : ∀ w ∈ wsX00, w ∈ wsX0_degree := fun w h => List.mem_cons_of_mem _ (List.mem_append_right _ h)
  have f13 := hts (.fieldLink RX0 13 "PointColours" "degrees" "[I") (by decide +kernel)
  refine lv_aload_n hx hb dX0_degree_0 rfl (lv_at hl 0 rfl) ?_
  refine lv_iload_n hx hb dX0_degree_1 rfl (lv_at hl 1 rfl) ?_
  refine px_rd (ci := 0) (q := (RX0, TX0, 11)) (v := px_b (pm_pt n a)) (rest := []) S hP hK (tX0_isPoint (by omega) a) (cwV 1 hts gX0_degree_X0_isPoint rfl rfl rfl (by decide +kernel) ⟨by decide, by decide⟩) rfl rfl rfl hl.1 rfl (Nat.le_of_ble_eq_true rfl) dX0_degree_2 ⟨Nat.zero_le _, Nat.zero_le _⟩ ?_
  refine px_eqb (tgt := 17) hx hb dX0_degree_5 (by decide) (fun h5 => ?_) (fun h5 => ?_)
  · refine lv_iconst (v := -1) hx hb dX0_degree_17 (by decide +kernel) ?_
    exact px_ri hx hb hr hlk (by first | rw [pm_rd_n h5] | (rw [h4]; exact pm_rd_g.symm)) dX0_degree_18
  · obtain ⟨j, hj, rfl⟩ := pm_pt_of (by omega) h5
    refine lv_aload_n hx hb dX0_degree_8 rfl (lv_at hl 0 rfl) ?_
    refine va_get (D := D) (ci := 0) (v := .ref (ad 2)) (C := RX0) (T := TX0) (N := 11) hx hb hts hin hown hK hP 0 rfl rfl 4 (by decide) f13 (fun _ h9 => h9) rfl dX0_degree_9 ?_
    refine lv_iload_n hx hb dX0_degree_12 rfl (lv_at hl 1 rfl) ?_
    refine px_iald (n := 200) (i := j) hx hb hK hP 2 0 rfl rfl (by omega) (by decide) dX0_degree_13 ?_
    refine lv_goto (tgt := 18) hx hb dX0_degree_14 (by decide) ?_
    exact px_ri hx hb hr hlk (by rw [pm_rd_t (by omega) hj]) dX0_degree_18
set_option maxHeartbeats 4000000 in
set_option maxRecDepth 100000 in
theorem tX0_joined {l : Launch} {D : va_G} {cI cJ cZ : ClassId} {ad : Nat → Nat} {n k : Nat} {gv : Int32} {E : Nat → Int64} {G C Wi O IO NI CF : Nat → Int32} (J : Nat → Nat → Bool) (hJ : ∀ a b, a < 200 → b < 200 → pm_ed E a b = J a b) (hn : n ≤ 200) (a b : Int32) : RdI l yX0_joined wsX0_joined (rmd 2) D (tyq cI cJ cZ) [.ref (ad 0), .int a, .int b] (w0 cI cJ cZ ad (nI n) (nI k) gv E G C Wi O IO NI CF) (px_b (pm_jd n J a b)) := by
  refine px_met (cc := cX0_joined) (maxL := 3) (ret := (some .boolean)) (lv := [(0, .ref (ad 0)), (1, .int a), (2, .int b)]) (by decide +kernel) rfl (Nat.le_of_ble_eq_true rfl) rfl ?_
  intro p e s m below meth c ls S hr hlk hnm hv hl
  obtain ⟨hx, hb, hml, hown, hts⟩ := id S
  obtain ⟨hP, hK⟩ := hv
  refine lv_aload_n hx hb dX0_joined_0 rfl (lv_at hl 0 rfl) ?_
  refine lv_iload_n hx hb dX0_joined_1 rfl (lv_at hl 1 rfl) ?_
  refine px_rd (ci := 0) (q := (RX0, TX0, 11)) (v := px_b (pm_pt n a)) (rest := []) S hP hK (tX0_isPoint (by omega) a) (cwV 1 hts gX0_joined_X0_isPoint rfl rfl rfl (by decide +kernel) ⟨by decide, by decide⟩) rfl rfl rfl hl.1 rfl (Nat.le_of_ble_eq_true rfl) dX0_joined_2 ⟨Nat.zero_le _, Nat.zero_le _⟩ ?_
  refine px_eqb (tgt := 29) hx hb dX0_joined_5 (by decide) (fun h5 => ?_) (fun h5 => ?_)
  · refine lv_iconst (v := px_b false) hx hb dX0_joined_29 (by decide +kernel) ?_
    exact px_rz hx hb hr hlk (by first | (simp [pm_jd, h5]; done) | (simp [pm_jd, h5, h13]; done) | (rw [pm_jd, h5, h13, nI_clamp (by omega), nI_clamp (by omega), h22]; rfl)) dX0_joined_30
  · refine lv_aload_n hx hb dX0_joined_8 rfl (lv_at hl 0 rfl) ?_
    refine lv_iload_n hx hb dX0_joined_9 rfl (lv_at hl 2 rfl) ?_
    refine px_rd (ci := 0) (q := (RX0, TX0, 11)) (v := px_b (pm_pt n b)) (rest := []) S hP hK (tX0_isPoint (by omega) b) (cwV 1 hts gX0_joined_X0_isPoint rfl rfl rfl (by decide +kernel) ⟨by decide, by decide⟩) rfl rfl rfl hl.1 rfl (Nat.le_of_ble_eq_true rfl) dX0_joined_10 ⟨Nat.zero_le _, Nat.zero_le _⟩ ?_
    refine px_eqb (tgt := 29) hx hb dX0_joined_13 (by decide) (fun h13 => ?_) (fun h13 => ?_)
    · refine lv_iconst (v := px_b false) hx hb dX0_joined_29 (by decide +kernel) ?_
      exact px_rz hx hb hr hlk (by first | (simp [pm_jd, h5]; done) | (simp [pm_jd, h5, h13]; done) | (rw [pm_jd, h5, h13, nI_clamp (by omega), nI_clamp (by omega), h22]; rfl)) dX0_joined_30
    · obtain ⟨i, hi, rfl⟩ := pm_pt_of (by omega) h5
      obtain ⟨j, hj, rfl⟩ := pm_pt_of (by omega) h13
      refine lv_aload_n hx hb dX0_joined_16 rfl (lv_at hl 0 rfl) ?_
      refine lv_iload_n hx hb dX0_joined_17 rfl (lv_at hl 1 rfl) ?_
      refine lv_iload_n hx hb dX0_joined_18 rfl (lv_at hl 2 rfl) ?_
      refine px_rd (ci := 0) (q := (RX0, TX0, 11)) (v := px_b (J i j)) (rest := []) S hP hK (tX0_hasEdge J hJ i j (by omega) (by omega)) (cwV 2 hts gX0_joined_X0_hasEdge rfl rfl rfl (by decide +kernel) ⟨by decide, by decide⟩) rfl rfl rfl hl.1 rfl (Nat.le_of_ble_eq_true rfl) dX0_joined_19 ⟨Nat.zero_le _, Nat.zero_le _⟩ ?_
      refine px_eqb (tgt := 29) hx hb dX0_joined_22 (by decide) (fun h22 => ?_) (fun h22 => ?_)
      · refine lv_iconst (v := px_b false) hx hb dX0_joined_29 (by decide +kernel) ?_
        exact px_rz hx hb hr hlk (by first | (simp [pm_jd, h5]; done) | (simp [pm_jd, h5, h13]; done) | (rw [pm_jd, h5, h13, nI_clamp (by omega), nI_clamp (by omega), h22]; rfl)) dX0_joined_30
      · refine lv_iconst (v := px_b true) hx hb dX0_joined_25 (by decide +kernel) ?_
        refine lv_goto (tgt := 30) hx hb dX0_joined_26 (by decide) ?_
        exact px_rz hx hb hr hlk (by first | (simp [pm_jd, h5]; done) | (simp [pm_jd, h5, h13]; done) | (rw [pm_jd, h5, h13, nI_clamp (by omega), nI_clamp (by omega), h22]; rfl)) dX0_joined_30
set_option maxHeartbeats 4000000 in
set_option maxRecDepth 100000 in
theorem tX1_joined {l : Launch} {D : va_G} {cI cJ cZ : ClassId} {bd : Nat → Nat} {n k : Nat} {gv : Int32} {PA C Wi CO RW IN : Nat → Int32} (J : Nat → Nat → Bool) (hJ : ∀ a b, a < 200 → b < 200 → PA (200 * a + b) = px_b (J a b)) (hn : n ≤ 200) (a b : Int32) : RdI l yX1_joined wsX1_joined (rmd 1) D (tyq cI cJ cZ) [.ref (bd 0), .int a, .int b] (w1 cI cZ bd (nI n) (nI k) gv PA C Wi CO RW IN) (px_b (pm_jd n J a b)) := by
  refine px_met (cc := cX1_joined) (maxL := 3) (ret := (some .boolean)) (lv := [(0, .ref (bd 0)), (1, .int a), (2, .int b)]) (by decide +kernel) rfl (Nat.le_of_ble_eq_true rfl) rfl ?_
  intro p e s m below meth c ls S hr hlk hnm hv hl
  obtain ⟨hx, hb, hml, hown, hts⟩ := id S
  obtain ⟨hP, hK⟩ := hv
  have hin : ∀ w ∈ wsX10, w ∈ wsX1_joined := fun w h => List.mem_cons_of_mem _ (List.mem_append_right _ h)
  have f10 := hts (.fieldLink RX1 10 "PointColoursModel" "pairs" "[Z") (by decide +kernel)
  refine lv_aload_n hx hb dX1_joined_0 rfl (lv_at hl 0 rfl) ?_
  refine lv_iload_n hx hb dX1_joined_1 rfl (lv_at hl 1 rfl) ?_
  refine px_rd (ci := 1) (q := (RX1, TX1, 9)) (v := px_b (pm_pt n a)) (rest := []) S hP hK (tX1_isPoint (by omega) a) (cwV 1 hts gX1_joined_X1_isPoint rfl rfl rfl (by decide +kernel) ⟨by decide, by decide⟩) rfl rfl rfl hl.1 rfl (Nat.le_of_ble_eq_true rfl) dX1_joined_2 ⟨Nat.zero_le _, Nat.zero_le _⟩ ?_
  refine px_eqb (tgt := 35) hx hb dX1_joined_5 (by decide) (fun h5 => ?_) (fun h5 => ?_)
  · refine lv_iconst (v := px_b false) hx hb dX1_joined_35 (by decide +kernel) ?_
    exact px_rz hx hb hr hlk (by first | (simp [pm_jd, h5]; done) | (simp [pm_jd, h5, h13]; done) | (rw [pm_jd, h5, h13, nI_clamp (by omega), nI_clamp (by omega), h28]; rfl)) dX1_joined_36
  · refine lv_aload_n hx hb dX1_joined_8 rfl (lv_at hl 0 rfl) ?_
    refine lv_iload_n hx hb dX1_joined_9 rfl (lv_at hl 2 rfl) ?_
    refine px_rd (ci := 1) (q := (RX1, TX1, 9)) (v := px_b (pm_pt n b)) (rest := []) S hP hK (tX1_isPoint (by omega) b) (cwV 1 hts gX1_joined_X1_isPoint rfl rfl rfl (by decide +kernel) ⟨by decide, by decide⟩) rfl rfl rfl hl.1 rfl (Nat.le_of_ble_eq_true rfl) dX1_joined_10 ⟨Nat.zero_le _, Nat.zero_le _⟩ ?_
    refine px_eqb (tgt := 35) hx hb dX1_joined_13 (by decide) (fun h13 => ?_) (fun h13 => ?_)
    · refine lv_iconst (v := px_b false) hx hb dX1_joined_35 (by decide +kernel) ?_
      exact px_rz hx hb hr hlk (by first | (simp [pm_jd, h5]; done) | (simp [pm_jd, h5, h13]; done) | (rw [pm_jd, h5, h13, nI_clamp (by omega), nI_clamp (by omega), h28]; rfl)) dX1_joined_36
    · obtain ⟨i, hi, rfl⟩ := pm_pt_of (by omega) h5
      obtain ⟨j, hj, rfl⟩ := pm_pt_of (by omega) h13
      refine lv_aload_n hx hb dX1_joined_16 rfl (lv_at hl 0 rfl) ?_
      refine va_get (D := D) (ci := 1) (v := .ref (bd 1)) (C := RX1) (T := TX1) (N := 9) hx hb hts hin hown hK hP 0 rfl rfl 0 (by decide) f10 (fun _ h9 => h9) rfl dX1_joined_17 ?_
      refine lv_sipush (v := nI 200) hx hb dX1_joined_20 (by decide +kernel) ?_
      refine lv_iload_n hx hb dX1_joined_23 rfl (lv_at hl 1 rfl) ?_
      refine px_mul hx hb dX1_joined_24 ?_
      refine lv_iload_n hx hb dX1_joined_25 rfl (lv_at hl 2 rfl) ?_
      refine px_add hx hb dX1_joined_26 ?_
      refine px_zald (n := 40000) (i := ((200 * i) + j)) hx hb hK hP 1 2 rfl rfl (by omega) (by decide) dX1_joined_27 ?_
      refine px_top (y := px_b (J i j)) (hJ _ _ (by omega) (by omega)) ?_
      refine px_eqb (tgt := 35) hx hb dX1_joined_28 (by decide) (fun h28 => ?_) (fun h28 => ?_)
      · refine lv_iconst (v := px_b false) hx hb dX1_joined_35 (by decide +kernel) ?_
        exact px_rz hx hb hr hlk (by first | (simp [pm_jd, h5]; done) | (simp [pm_jd, h5, h13]; done) | (rw [pm_jd, h5, h13, nI_clamp (by omega), nI_clamp (by omega), h28]; rfl)) dX1_joined_36
      · refine lv_iconst (v := px_b true) hx hb dX1_joined_31 (by decide +kernel) ?_
        refine lv_goto (tgt := 36) hx hb dX1_joined_32 (by decide) ?_
        exact px_rz hx hb hr hlk (by first | (simp [pm_jd, h5]; done) | (simp [pm_jd, h5, h13]; done) | (rw [pm_jd, h5, h13, nI_clamp (by omega), nI_clamp (by omega), h28]; rfl)) dX1_joined_36
end
section
theorem pm_ok_lt {k : Nat} {x : Int32} (hk : k ≤ 30) (h : pm_ok k x) : x < 0 ↔ x = -1 := by
  rcases h with rfl | ⟨c, hc, rfl⟩
  · decide +kernel
  · exact ⟨fun q => absurd q (nI_pos (by omega)), fun q => absurd q (pm_m1 (by omega))⟩
set_option maxHeartbeats 4000000 in
set_option maxRecDepth 100000 in
theorem tX0_strays {l : Launch} {D : va_G} {cI cJ cZ : ClassId} {ad : Nat → Nat} {n k : Nat} {g : Bool} {E : Nat → Int64} {G C Wi O IO NI CF : Nat → Int32} (J : Nat → Nat → Bool) (hJ : ∀ a b, a < 200 → b < 200 → pm_ed E a b = J a b) (hn : n ≤ 200) : RdI l yX0_strays wsX0_strays (rmd 2) D (tyq cI cJ cZ) [.ref (ad 0)] (w0 cI cJ cZ ad (nI n) (nI k) (px_b g) E G C Wi O IO NI CF) (nI (if g = true then pm_st J CF n else 0)) := by
  cases g
  · refine px_met (cc := cX0_strays) (maxL := 4) (ret := (some .int)) (lv := [(0, .ref (ad 0))]) (by decide +kernel) rfl (Nat.le_of_ble_eq_true rfl) rfl ?_
    intro p e s m below meth c ls S hr hlk hnm hv hl
    obtain ⟨hx, hb, hml, hown, hts⟩ := id S
    obtain ⟨hP, hK⟩ := hv
    have hin : ∀ w ∈ wsX00, w ∈ wsX0_strays := fun w h => List.mem_cons_of_mem _ (List.mem_append_right _ h)
    have f51 := hts (.fieldLink RX0 51 "PointColours" "given" "Z") (by decide +kernel)
    have f66 := hts (.fieldLink RX0 66 "PointColours" "points" "I") (by decide +kernel)
    have f33 := hts (.fieldLink RX0 33 "PointColours" "colourOf" "[I") (by decide +kernel)
    refine lv_aload_n hx hb dX0_strays_0 rfl (lv_at hl 0 rfl) ?_
    refine va_get (D := D) (ci := 0) (v := .int (px_b false)) (C := RX0) (T := TX0) (N := 11) hx hb hts hin hown hK hP 0 rfl rfl 2 (by decide) f51 (fun _ h9 => h9) rfl dX0_strays_1 ?_
    refine px_neb (tgt := 9) hx hb dX0_strays_4 (by decide) (fun h4 => ?_) (fun h4 => ?_)
    · cases h4
    refine lv_iconst (v := nI 0) hx hb dX0_strays_7 (by decide +kernel) ?_
    exact px_ri hx hb hr hlk rfl dX0_strays_8
  · refine px_met (cc := cX0_strays) (maxL := 4) (ret := (some .int)) (lv := [(0, .ref (ad 0))]) (by decide +kernel) rfl (Nat.le_of_ble_eq_true rfl) rfl ?_
    intro p e s m below meth c ls S hr hlk hnm hv hl
    obtain ⟨hx, hb, hml, hown, hts⟩ := id S
    obtain ⟨hP, hK⟩ := hv
    have hin : ∀ w ∈ wsX00, w ∈ wsX0_strays := fun w h => List.mem_cons_of_mem _ (List.mem_append_right _ h)
    have f51 := hts (.fieldLink RX0 51 "PointColours" "given" "Z") (by decide +kernel)
    have f66 := hts (.fieldLink RX0 66 "PointColours" "points" "I") (by decide +kernel)
    have f33 := hts (.fieldLink RX0 33 "PointColours" "colourOf" "[I") (by decide +kernel)
    have outer : ∀ (f a : Nat), n + 1 ≤ a + f → a ≤ n → ∀ ls : Array Slot, lv_has ls 4 [(1, .int (nI (pm_sm (fun a => pm_cn (pm_sy J CF a) n) a))), (2, .int (nI a)), (0, .ref (ad 0))] → W p l e (rmd 2) s m ([.ref (ad 0)] : List Value).toArray below meth c s.heap [] 0 0 (MQ below (vp_Si (fun r => r = nI (if true = true then pm_st J CF n else 0))) ([.ref (ad 0)] : List Value).toArray s 0 0 (fun _ => False)) (F0 m 13 ls []) := by
      intro f
      induction f with
      | zero => intro a h1 h2; exact absurd h1 (by omega)
      | succ f iho =>
        intro a h1 h2 ls hl
        refine lv_iload_n hx hb dX0_strays_13 rfl (lv_at hl 1 rfl) ?_
        refine lv_aload_n hx hb dX0_strays_14 rfl (lv_at hl 2 rfl) ?_
        refine va_get (D := D) (ci := 0) (v := .int (nI n)) (C := RX0) (T := TX0) (N := 11) hx hb hts hin hown hK hP 0 rfl rfl 0 (by decide) f66 (fun _ h9 => h9) rfl dX0_strays_15 ?_
        refine px_ge (tgt := 82) hx hb dX0_strays_18 (by decide) (by omega) (by omega) (fun h18 => ?_) (fun h18 => ?_)
        · refine lv_iload_n hx hb dX0_strays_82 rfl (lv_at hl 0 rfl) ?_
          obtain rfl : a = n := by omega
          exact px_ri hx hb hr hlk rfl dX0_strays_83
        · refine lv_iload_n hx hb dX0_strays_21 rfl (lv_at hl 1 rfl) ?_
          refine lv_iconst (v := nI 1) hx hb dX0_strays_22 (by decide +kernel) ?_
          refine px_add hx hb dX0_strays_23 ?_
          refine lv_istore_n (lv' := [(3, .int (nI (a + 1))), (1, .int (nI (pm_sm (fun a => pm_cn (pm_sy J CF a) n) a))), (2, .int (nI a)), (0, .ref (ad 0))]) hx hb dX0_strays_24 rfl hl (by decide) rfl (fun ls hl => ?_)
          have inner : ∀ (f b : Nat), n + 1 ≤ b + f → a + 1 ≤ b → b ≤ n → ∀ ls : Array Slot, lv_has ls 4 [(1, .int (nI (pm_sm (fun a => pm_cn (pm_sy J CF a) n) a + pm_cn (pm_sy J CF a) b))), (3, .int (nI b)), (2, .int (nI a)), (0, .ref (ad 0))] → W p l e (rmd 2) s m ([.ref (ad 0)] : List Value).toArray below meth c s.heap [] 0 0 (MQ below (vp_Si (fun r => r = nI (if true = true then pm_st J CF n else 0))) ([.ref (ad 0)] : List Value).toArray s 0 0 (fun _ => False)) (F0 m 25 ls []) := by
            intro f
            induction f with
            | zero => intro b h1 h2 h3; exact absurd h1 (by omega)
            | succ f ihi =>
              intro b h1 h2 h3 ls hl
              refine lv_iload_n hx hb dX0_strays_25 rfl (lv_at hl 1 rfl) ?_
              refine lv_aload_n hx hb dX0_strays_26 rfl (lv_at hl 3 rfl) ?_
              refine va_get (D := D) (ci := 0) (v := .int (nI n)) (C := RX0) (T := TX0) (N := 11) hx hb hts hin hown hK hP 0 rfl rfl 0 (by decide) f66 (fun _ h9 => h9) rfl dX0_strays_27 ?_
              refine px_ge (tgt := 76) hx hb dX0_strays_30 (by decide) (by omega) (by omega) (fun h30 => ?_) (fun h30 => ?_)
              · refine lv_iinc (v := nI (a + 1)) (lv' := [(2, .int (nI (a + 1))), (1, .int (nI (pm_sm (fun a => pm_cn (pm_sy J CF a) n) a + pm_cn (pm_sy J CF a) b))), (3, .int (nI b)), (0, .ref (ad 0))]) hx hb dX0_strays_76 hl (k := 2) rfl (px_inc1 _) (by decide) rfl (fun ls hl => ?_)
                refine lv_goto (tgt := 13) hx hb dX0_strays_79 (by decide) ?_
                obtain rfl : b = n := by omega
                exact iho (a + 1) (by omega) (by omega) ls (lv_sub hl [1, 0, 3] rfl)
              · refine lv_aload_n hx hb dX0_strays_33 rfl (lv_at hl 3 rfl) ?_
                refine va_get (D := D) (ci := 0) (v := .ref (ad 8)) (C := RX0) (T := TX0) (N := 11) hx hb hts hin hown hK hP 0 rfl rfl 10 (by decide) f33 (fun _ h9 => h9) rfl dX0_strays_34 ?_
                refine lv_iload_n hx hb dX0_strays_37 rfl (lv_at hl 2 rfl) ?_
                refine px_iald (n := 200) (i := a) hx hb hK hP 8 0 rfl rfl (by omega) (by decide) dX0_strays_38 ?_
                refine lv_iconst (v := -1) hx hb dX0_strays_39 (by decide +kernel) ?_
                refine lv_icmp_eq (tgt := 70) hx hb dX0_strays_40 (by decide) (fun h40 => ?_) (fun h40 => ?_)
                · refine lv_iinc (v := nI (b + 1)) (lv' := [(3, .int (nI (b + 1))), (1, .int (nI (pm_sm (fun a => pm_cn (pm_sy J CF a) n) a + pm_cn (pm_sy J CF a) b))), (2, .int (nI a)), (0, .ref (ad 0))]) hx hb dX0_strays_70 hl (k := 1) rfl (px_inc1 _) (by decide) rfl (fun ls hl => ?_)
                  refine lv_goto (tgt := 25) hx hb dX0_strays_73 (by decide) ?_
                  have hs : pm_sy J CF a b = false := by simp [pm_sy, h40]
                  exact ihi (b + 1) (by omega) (by omega) (by omega) ls (by rw [← pm_sy2 hs]; exact lv_sub hl [1, 0, 2, 3] rfl)
                · refine lv_aload_n hx hb dX0_strays_43 rfl (lv_at hl 3 rfl) ?_
                  refine va_get (D := D) (ci := 0) (v := .ref (ad 8)) (C := RX0) (T := TX0) (N := 11) hx hb hts hin hown hK hP 0 rfl rfl 10 (by decide) f33 (fun _ h9 => h9) rfl dX0_strays_44 ?_
                  refine lv_iload_n hx hb dX0_strays_47 rfl (lv_at hl 2 rfl) ?_
                  refine px_iald (n := 200) (i := a) hx hb hK hP 8 0 rfl rfl (by omega) (by decide) dX0_strays_48 ?_
                  refine lv_aload_n hx hb dX0_strays_49 rfl (lv_at hl 3 rfl) ?_
                  refine va_get (D := D) (ci := 0) (v := .ref (ad 8)) (C := RX0) (T := TX0) (N := 11) hx hb hts hin hown hK hP 0 rfl rfl 10 (by decide) f33 (fun _ h9 => h9) rfl dX0_strays_50 ?_
                  refine lv_iload_n hx hb dX0_strays_53 rfl (lv_at hl 1 rfl) ?_
                  refine px_iald (n := 200) (i := b) hx hb hK hP 8 0 rfl rfl (by omega) (by decide) dX0_strays_54 ?_
                  refine lv_icmp_ne (tgt := 70) hx hb dX0_strays_55 (by decide) (fun h55 => ?_) (fun h55 => ?_)
                  · refine lv_iinc (v := nI (b + 1)) (lv' := [(3, .int (nI (b + 1))), (1, .int (nI (pm_sm (fun a => pm_cn (pm_sy J CF a) n) a + pm_cn (pm_sy J CF a) b))), (2, .int (nI a)), (0, .ref (ad 0))]) hx hb dX0_strays_70 hl (k := 1) rfl (px_inc1 _) (by decide) rfl (fun ls hl => ?_)
                    refine lv_goto (tgt := 25) hx hb dX0_strays_73 (by decide) ?_
                    have hs : pm_sy J CF a b = false := by simp [pm_sy, h55]
                    exact ihi (b + 1) (by omega) (by omega) (by omega) ls (by rw [← pm_sy2 hs]; exact lv_sub hl [1, 0, 2, 3] rfl)
                  · refine lv_aload_n hx hb dX0_strays_58 rfl (lv_at hl 3 rfl) ?_
                    refine lv_iload_n hx hb dX0_strays_59 rfl (lv_at hl 2 rfl) ?_
                    refine lv_iload_n hx hb dX0_strays_60 rfl (lv_at hl 1 rfl) ?_
                    refine px_rd (ci := 0) (q := (RX0, TX0, 11)) (v := px_b (J a b)) (rest := []) S hP hK (tX0_hasEdge J hJ a b (by omega) (by omega)) (cwV 2 hts gX0_strays_X0_hasEdge rfl rfl rfl (by decide +kernel) ⟨by decide, by decide⟩) rfl rfl rfl hl.1 rfl (Nat.le_of_ble_eq_true rfl) dX0_strays_61 ⟨Nat.zero_le _, Nat.zero_le _⟩ ?_
                    refine px_eqb (tgt := 70) hx hb dX0_strays_64 (by decide) (fun h64 => ?_) (fun h64 => ?_)
                    · refine lv_iinc (v := nI (b + 1)) (lv' := [(3, .int (nI (b + 1))), (1, .int (nI (pm_sm (fun a => pm_cn (pm_sy J CF a) n) a + pm_cn (pm_sy J CF a) b))), (2, .int (nI a)), (0, .ref (ad 0))]) hx hb dX0_strays_70 hl (k := 1) rfl (px_inc1 _) (by decide) rfl (fun ls hl => ?_)
                      refine lv_goto (tgt := 25) hx hb dX0_strays_73 (by decide) ?_
                      have hs : pm_sy J CF a b = false := by simp [pm_sy, h64]
                      exact ihi (b + 1) (by omega) (by omega) (by omega) ls (by rw [← pm_sy2 hs]; exact lv_sub hl [1, 0, 2, 3] rfl)
                    · refine lv_iinc (v := nI (pm_sm (fun a => pm_cn (pm_sy J CF a) n) a + pm_cn (pm_sy J CF a) b + 1)) (lv' := [(1, .int (nI (pm_sm (fun a => pm_cn (pm_sy J CF a) n) a + pm_cn (pm_sy J CF a) b + 1))), (3, .int (nI b)), (2, .int (nI a)), (0, .ref (ad 0))]) hx hb dX0_strays_67 hl (k := 0) rfl (px_inc1 _) (by decide) rfl (fun ls hl => ?_)
                      refine lv_iinc (v := nI (b + 1)) (lv' := [(3, .int (nI (b + 1))), (1, .int (nI (pm_sm (fun a => pm_cn (pm_sy J CF a) n) a + pm_cn (pm_sy J CF a) b + 1))), (2, .int (nI a)), (0, .ref (ad 0))]) hx hb dX0_strays_70 hl (k := 1) rfl (px_inc1 _) (by decide) rfl (fun ls hl => ?_)
                      refine lv_goto (tgt := 25) hx hb dX0_strays_73 (by decide) ?_
                      have hs : pm_sy J CF a b = true := by simp only [pm_sy, h64, Bool.true_and, Bool.and_eq_true, Bool.not_eq_true', decide_eq_true_eq, decide_eq_false_iff_not]; exact ⟨by omega, h40, by first | exact h55 | exact Decidable.not_not.mp h55⟩
                      exact ihi (b + 1) (by omega) (by omega) (by omega) ls (by rw [← pm_sy1 hs]; exact lv_sub hl [1, 0, 2, 3] rfl)
          exact inner (n + 1) (a + 1) (by omega) (by omega) (by omega) ls (by rw [pm_sy0 J CF a (a + 1) (by omega), Nat.add_zero]; exact lv_sub hl [1, 0, 2, 3] rfl)
    refine lv_aload_n hx hb dX0_strays_0 rfl (lv_at hl 0 rfl) ?_
    refine va_get (D := D) (ci := 0) (v := .int (px_b true)) (C := RX0) (T := TX0) (N := 11) hx hb hts hin hown hK hP 0 rfl rfl 2 (by decide) f51 (fun _ h9 => h9) rfl dX0_strays_1 ?_
    refine px_neb (tgt := 9) hx hb dX0_strays_4 (by decide) (fun h4 => ?_) (fun h4 => ?_)
    rotate_left
    · cases h4
    refine lv_iconst (v := nI 0) hx hb dX0_strays_9 (by decide +kernel) ?_
    refine lv_istore_n (lv' := [(1, .int (nI 0)), (0, .ref (ad 0))]) hx hb dX0_strays_10 rfl hl (by decide) rfl (fun ls hl => ?_)
    refine lv_iconst (v := nI 0) hx hb dX0_strays_11 (by decide +kernel) ?_
    refine lv_istore_n (lv' := [(2, .int (nI 0)), (1, .int (nI 0)), (0, .ref (ad 0))]) hx hb dX0_strays_12 rfl hl (by decide) rfl (fun ls hl => ?_)
    exact outer (n + 1) 0 (by omega) (by omega) ls (lv_sub hl [1, 0, 2] rfl)
set_option maxHeartbeats 4000000 in
set_option maxRecDepth 100000 in
theorem tX1_strays {l : Launch} {D : va_G} {cI cJ cZ : ClassId} {bd : Nat → Nat} {n k : Nat} {g : Bool} {PA C Wi CO RW IN : Nat → Int32} (J : Nat → Nat → Bool) (hJ : ∀ a b, a < 200 → b < 200 → PA (200 * a + b) = px_b (J a b)) (hn : n ≤ 200) (hn0 : 0 < n) (hk : k ≤ 30) (hok : g = true → ∀ a, a < n → pm_ok k (CO a)) : RdI l yX1_strays wsX1_strays (rmd 0) D (tyq cI cJ cZ) [.ref (bd 0)] (w1 cI cZ bd (nI n) (nI k) (px_b g) PA C Wi CO RW IN) (nI (if g = true then pm_st J CO n else 0)) := by
  cases g
  · refine px_met (cc := cX1_strays) (maxL := 4) (ret := (some .int)) (lv := [(0, .ref (bd 0))]) (by decide +kernel) rfl (Nat.le_of_ble_eq_true rfl) rfl ?_
    intro p e s m below meth c ls S hr hlk hnm hv hl
    obtain ⟨hx, hb, hml, hown, hts⟩ := id S
    obtain ⟨hP, hK⟩ := hv
    have hin : ∀ w ∈ wsX10, w ∈ wsX1_strays := fun w h => List.mem_cons_of_mem _ (List.mem_append_right _ h)
    have f34 := hts (.fieldLink RX1 34 "PointColoursModel" "n" "I") (by decide +kernel)
    have f41 := hts (.fieldLink RX1 41 "PointColoursModel" "given" "Z") (by decide +kernel)
    have f10 := hts (.fieldLink RX1 10 "PointColoursModel" "pairs" "[Z") (by decide +kernel)
    have f21 := hts (.fieldLink RX1 21 "PointColoursModel" "colours" "[I") (by decide +kernel)
    refine lv_iconst (v := nI 0) hx hb dX1_strays_0 (by decide +kernel) ?_
    refine lv_istore_n (lv' := [(1, .int (nI 0)), (0, .ref (bd 0))]) hx hb dX1_strays_1 rfl hl (by decide) rfl (fun ls hl => ?_)
    refine lv_iconst (v := nI 0) hx hb dX1_strays_2 (by decide +kernel) ?_
    refine lv_istore_n (lv' := [(2, .int (nI 0)), (1, .int (nI 0)), (0, .ref (bd 0))]) hx hb dX1_strays_3 rfl hl (by decide) rfl (fun ls hl => ?_)
    refine lv_iload_n hx hb dX1_strays_4 rfl (lv_at hl 0 rfl) ?_
    refine lv_aload_n hx hb dX1_strays_5 rfl (lv_at hl 2 rfl) ?_
    refine va_get (D := D) (ci := 1) (v := .int (nI n)) (C := RX1) (T := TX1) (N := 9) hx hb hts hin hown hK hP 0 rfl rfl 6 (by decide) f34 (fun _ h9 => h9) rfl dX1_strays_6 ?_
    refine px_ge (tgt := 85) hx hb dX1_strays_9 (by decide) (by omega) (by omega) (fun h9 => ?_) (fun h9 => ?_)
    · exact absurd h9 (by omega)
    refine lv_aload_n hx hb dX1_strays_12 rfl (lv_at hl 2 rfl) ?_
    refine va_get (D := D) (ci := 1) (v := .int (px_b false)) (C := RX1) (T := TX1) (N := 9) hx hb hts hin hown hK hP 0 rfl rfl 8 (by decide) f41 (fun _ h9 => h9) rfl dX1_strays_13 ?_
    refine px_eqb (tgt := 85) hx hb dX1_strays_16 (by decide) (fun h16 => ?_) (fun h16 => ?_)
    rotate_left
    · cases h16
    refine lv_iload_n hx hb dX1_strays_85 rfl (lv_at hl 1 rfl) ?_
    exact px_ri hx hb hr hlk rfl dX1_strays_86
  · refine px_met (cc := cX1_strays) (maxL := 4) (ret := (some .int)) (lv := [(0, .ref (bd 0))]) (by decide +kernel) rfl (Nat.le_of_ble_eq_true rfl) rfl ?_
    intro p e s m below meth c ls S hr hlk hnm hv hl
    obtain ⟨hx, hb, hml, hown, hts⟩ := id S
    obtain ⟨hP, hK⟩ := hv
    have hin : ∀ w ∈ wsX10, w ∈ wsX1_strays := fun w h => List.mem_cons_of_mem _ (List.mem_append_right _ h)
    have f34 := hts (.fieldLink RX1 34 "PointColoursModel" "n" "I") (by decide +kernel)
    have f41 := hts (.fieldLink RX1 41 "PointColoursModel" "given" "Z") (by decide +kernel)
    have f10 := hts (.fieldLink RX1 10 "PointColoursModel" "pairs" "[Z") (by decide +kernel)
    have f21 := hts (.fieldLink RX1 21 "PointColoursModel" "colours" "[I") (by decide +kernel)
    have outer : ∀ (f a : Nat), n + 1 ≤ a + f → a ≤ n → ∀ ls : Array Slot, lv_has ls 4 [(1, .int (nI (pm_sm (fun a => pm_cn (pm_sy J CO a) n) a))), (2, .int (nI a)), (0, .ref (bd 0))] → W p l e (rmd 0) s m ([.ref (bd 0)] : List Value).toArray below meth c s.heap [] 0 0 (MQ below (vp_Si (fun r => r = nI (if true = true then pm_st J CO n else 0))) ([.ref (bd 0)] : List Value).toArray s 0 0 (fun _ => False)) (F0 m 4 ls []) := by
      intro f
      induction f with
      | zero => intro a h1 h2; exact absurd h1 (by omega)
      | succ f iho =>
        intro a h1 h2 ls hl
        refine lv_iload_n hx hb dX1_strays_4 rfl (lv_at hl 1 rfl) ?_
        refine lv_aload_n hx hb dX1_strays_5 rfl (lv_at hl 2 rfl) ?_
        refine va_get (D := D) (ci := 1) (v := .int (nI n)) (C := RX1) (T := TX1) (N := 9) hx hb hts hin hown hK hP 0 rfl rfl 6 (by decide) f34 (fun _ h9 => h9) rfl dX1_strays_6 ?_
        refine px_ge (tgt := 85) hx hb dX1_strays_9 (by decide) (by omega) (by omega) (fun h9 => ?_) (fun h9 => ?_)
        · refine lv_iload_n hx hb dX1_strays_85 rfl (lv_at hl 0 rfl) ?_
          obtain rfl : a = n := by omega
          exact px_ri hx hb hr hlk rfl dX1_strays_86
        · refine lv_aload_n hx hb dX1_strays_12 rfl (lv_at hl 2 rfl) ?_
          refine va_get (D := D) (ci := 1) (v := .int (px_b true)) (C := RX1) (T := TX1) (N := 9) hx hb hts hin hown hK hP 0 rfl rfl 8 (by decide) f41 (fun _ h9 => h9) rfl dX1_strays_13 ?_
          refine px_eqb (tgt := 85) hx hb dX1_strays_16 (by decide) (fun h16 => ?_) (fun h16 => ?_)
          · cases h16
          refine lv_iload_n hx hb dX1_strays_19 rfl (lv_at hl 1 rfl) ?_
          refine lv_iconst (v := nI 1) hx hb dX1_strays_20 (by decide +kernel) ?_
          refine px_add hx hb dX1_strays_21 ?_
          refine lv_istore_n (lv' := [(3, .int (nI (a + 1))), (1, .int (nI (pm_sm (fun a => pm_cn (pm_sy J CO a) n) a))), (2, .int (nI a)), (0, .ref (bd 0))]) hx hb dX1_strays_22 rfl hl (by decide) rfl (fun ls hl => ?_)
          have inner : ∀ (f b : Nat), n + 1 ≤ b + f → a + 1 ≤ b → b ≤ n → ∀ ls : Array Slot, lv_has ls 4 [(1, .int (nI (pm_sm (fun a => pm_cn (pm_sy J CO a) n) a + pm_cn (pm_sy J CO a) b))), (3, .int (nI b)), (2, .int (nI a)), (0, .ref (bd 0))] → W p l e (rmd 0) s m ([.ref (bd 0)] : List Value).toArray below meth c s.heap [] 0 0 (MQ below (vp_Si (fun r => r = nI (if true = true then pm_st J CO n else 0))) ([.ref (bd 0)] : List Value).toArray s 0 0 (fun _ => False)) (F0 m 23 ls []) := by
            intro f
            induction f with
            | zero => intro b h1 h2 h3; exact absurd h1 (by omega)
            | succ f ihi =>
              intro b h1 h2 h3 ls hl
              refine lv_iload_n hx hb dX1_strays_23 rfl (lv_at hl 1 rfl) ?_
              refine lv_aload_n hx hb dX1_strays_24 rfl (lv_at hl 3 rfl) ?_
              refine va_get (D := D) (ci := 1) (v := .int (nI n)) (C := RX1) (T := TX1) (N := 9) hx hb hts hin hown hK hP 0 rfl rfl 6 (by decide) f34 (fun _ h9 => h9) rfl dX1_strays_25 ?_
              refine px_ge (tgt := 79) hx hb dX1_strays_28 (by decide) (by omega) (by omega) (fun h28 => ?_) (fun h28 => ?_)
              · refine lv_iinc (v := nI (a + 1)) (lv' := [(2, .int (nI (a + 1))), (1, .int (nI (pm_sm (fun a => pm_cn (pm_sy J CO a) n) a + pm_cn (pm_sy J CO a) b))), (3, .int (nI b)), (0, .ref (bd 0))]) hx hb dX1_strays_79 hl (k := 2) rfl (px_inc1 _) (by decide) rfl (fun ls hl => ?_)
                refine lv_goto (tgt := 4) hx hb dX1_strays_82 (by decide) ?_
                obtain rfl : b = n := by omega
                exact iho (a + 1) (by omega) (by omega) ls (lv_sub hl [1, 0, 3] rfl)
              · refine lv_aload_n hx hb dX1_strays_31 rfl (lv_at hl 3 rfl) ?_
                refine va_get (D := D) (ci := 1) (v := .ref (bd 1)) (C := RX1) (T := TX1) (N := 9) hx hb hts hin hown hK hP 0 rfl rfl 0 (by decide) f10 (fun _ h9 => h9) rfl dX1_strays_32 ?_
                refine lv_sipush (v := nI 200) hx hb dX1_strays_35 (by decide +kernel) ?_
                refine lv_iload_n hx hb dX1_strays_38 rfl (lv_at hl 2 rfl) ?_
                refine px_mul hx hb dX1_strays_39 ?_
                refine lv_iload_n hx hb dX1_strays_40 rfl (lv_at hl 1 rfl) ?_
                refine px_add hx hb dX1_strays_41 ?_
                refine px_zald (n := 40000) (i := ((200 * a) + b)) hx hb hK hP 1 2 rfl rfl (by omega) (by decide) dX1_strays_42 ?_
                refine px_top (y := px_b (J a b)) (hJ _ _ (by omega) (by omega)) ?_
                refine px_eqb (tgt := 73) hx hb dX1_strays_43 (by decide) (fun h43 => ?_) (fun h43 => ?_)
                · refine lv_iinc (v := nI (b + 1)) (lv' := [(3, .int (nI (b + 1))), (1, .int (nI (pm_sm (fun a => pm_cn (pm_sy J CO a) n) a + pm_cn (pm_sy J CO a) b))), (2, .int (nI a)), (0, .ref (bd 0))]) hx hb dX1_strays_73 hl (k := 1) rfl (px_inc1 _) (by decide) rfl (fun ls hl => ?_)
                  refine lv_goto (tgt := 23) hx hb dX1_strays_76 (by decide) ?_
                  have hs : pm_sy J CO a b = false := by simp [pm_sy, h43]
                  exact ihi (b + 1) (by omega) (by omega) (by omega) ls (by rw [← pm_sy2 hs]; exact lv_sub hl [1, 0, 2, 3] rfl)
                · refine lv_aload_n hx hb dX1_strays_46 rfl (lv_at hl 3 rfl) ?_
                  refine va_get (D := D) (ci := 1) (v := .ref (bd 4)) (C := RX1) (T := TX1) (N := 9) hx hb hts hin hown hK hP 0 rfl rfl 3 (by decide) f21 (fun _ h9 => h9) rfl dX1_strays_47 ?_
                  refine lv_iload_n hx hb dX1_strays_50 rfl (lv_at hl 2 rfl) ?_
                  refine px_iald (n := 200) (i := a) hx hb hK hP 4 0 rfl rfl (by omega) (by decide) dX1_strays_51 ?_
                  refine lv_if_lt (tgt := 73) hx hb dX1_strays_52 (by decide) (fun h52 => ?_) (fun h52 => ?_)
                  · refine lv_iinc (v := nI (b + 1)) (lv' := [(3, .int (nI (b + 1))), (1, .int (nI (pm_sm (fun a => pm_cn (pm_sy J CO a) n) a + pm_cn (pm_sy J CO a) b))), (2, .int (nI a)), (0, .ref (bd 0))]) hx hb dX1_strays_73 hl (k := 1) rfl (px_inc1 _) (by decide) rfl (fun ls hl => ?_)
                    refine lv_goto (tgt := 23) hx hb dX1_strays_76 (by decide) ?_
                    have hs : pm_sy J CO a b = false := by simp [pm_sy, (pm_ok_lt hk (hok rfl a (by omega))).mp h52]
                    exact ihi (b + 1) (by omega) (by omega) (by omega) ls (by rw [← pm_sy2 hs]; exact lv_sub hl [1, 0, 2, 3] rfl)
                  · refine lv_aload_n hx hb dX1_strays_55 rfl (lv_at hl 3 rfl) ?_
                    refine va_get (D := D) (ci := 1) (v := .ref (bd 4)) (C := RX1) (T := TX1) (N := 9) hx hb hts hin hown hK hP 0 rfl rfl 3 (by decide) f21 (fun _ h9 => h9) rfl dX1_strays_56 ?_
                    refine lv_iload_n hx hb dX1_strays_59 rfl (lv_at hl 2 rfl) ?_
                    refine px_iald (n := 200) (i := a) hx hb hK hP 4 0 rfl rfl (by omega) (by decide) dX1_strays_60 ?_
                    refine lv_aload_n hx hb dX1_strays_61 rfl (lv_at hl 3 rfl) ?_
                    refine va_get (D := D) (ci := 1) (v := .ref (bd 4)) (C := RX1) (T := TX1) (N := 9) hx hb hts hin hown hK hP 0 rfl rfl 3 (by decide) f21 (fun _ h9 => h9) rfl dX1_strays_62 ?_
                    refine lv_iload_n hx hb dX1_strays_65 rfl (lv_at hl 1 rfl) ?_
                    refine px_iald (n := 200) (i := b) hx hb hK hP 4 0 rfl rfl (by omega) (by decide) dX1_strays_66 ?_
                    refine lv_icmp_ne (tgt := 73) hx hb dX1_strays_67 (by decide) (fun h67 => ?_) (fun h67 => ?_)
                    · refine lv_iinc (v := nI (b + 1)) (lv' := [(3, .int (nI (b + 1))), (1, .int (nI (pm_sm (fun a => pm_cn (pm_sy J CO a) n) a + pm_cn (pm_sy J CO a) b))), (2, .int (nI a)), (0, .ref (bd 0))]) hx hb dX1_strays_73 hl (k := 1) rfl (px_inc1 _) (by decide) rfl (fun ls hl => ?_)
                      refine lv_goto (tgt := 23) hx hb dX1_strays_76 (by decide) ?_
                      have hs : pm_sy J CO a b = false := by simp [pm_sy, h67]
                      exact ihi (b + 1) (by omega) (by omega) (by omega) ls (by rw [← pm_sy2 hs]; exact lv_sub hl [1, 0, 2, 3] rfl)
                    · refine lv_iinc (v := nI (pm_sm (fun a => pm_cn (pm_sy J CO a) n) a + pm_cn (pm_sy J CO a) b + 1)) (lv' := [(1, .int (nI (pm_sm (fun a => pm_cn (pm_sy J CO a) n) a + pm_cn (pm_sy J CO a) b + 1))), (3, .int (nI b)), (2, .int (nI a)), (0, .ref (bd 0))]) hx hb dX1_strays_70 hl (k := 0) rfl (px_inc1 _) (by decide) rfl (fun ls hl => ?_)
                      refine lv_iinc (v := nI (b + 1)) (lv' := [(3, .int (nI (b + 1))), (1, .int (nI (pm_sm (fun a => pm_cn (pm_sy J CO a) n) a + pm_cn (pm_sy J CO a) b + 1))), (2, .int (nI a)), (0, .ref (bd 0))]) hx hb dX1_strays_73 hl (k := 1) rfl (px_inc1 _) (by decide) rfl (fun ls hl => ?_)
                      refine lv_goto (tgt := 23) hx hb dX1_strays_76 (by decide) ?_
                      have hs : pm_sy J CO a b = true := by simp only [pm_sy, h43, Bool.true_and, Bool.and_eq_true, Bool.not_eq_true', decide_eq_true_eq, decide_eq_false_iff_not]; exact ⟨by omega, fun q => h52 ((pm_ok_lt hk (hok rfl a (by omega))).mpr q), by first | exact h67 | exact Decidable.not_not.mp h67⟩
                      exact ihi (b + 1) (by omega) (by omega) (by omega) ls (by rw [← pm_sy1 hs]; exact lv_sub hl [1, 0, 2, 3] rfl)
          exact inner (n + 1) (a + 1) (by omega) (by omega) (by omega) ls (by rw [pm_sy0 J CO a (a + 1) (by omega), Nat.add_zero]; exact lv_sub hl [1, 0, 2, 3] rfl)
    refine lv_iconst (v := nI 0) hx hb dX1_strays_0 (by decide +kernel) ?_
    refine lv_istore_n (lv' := [(1, .int (nI 0)), (0, .ref (bd 0))]) hx hb dX1_strays_1 rfl hl (by decide) rfl (fun ls hl => ?_)
    refine lv_iconst (v := nI 0) hx hb dX1_strays_2 (by decide +kernel) ?_
    refine lv_istore_n (lv' := [(2, .int (nI 0)), (1, .int (nI 0)), (0, .ref (bd 0))]) hx hb dX1_strays_3 rfl hl (by decide) rfl (fun ls hl => ?_)
    exact outer (n + 1) 0 (by omega) (by omega) ls (lv_sub hl [1, 0, 2] rfl)
end
section
theorem pm_fr_step {J : Nat → Nat → Bool} {col : Nat → Int32} {a i : Nat} {c : Int32} (h : pm_fr J col a c i = true) (h2 : (J a i && decide (col i = c)) = false) : pm_fr J col a c (i + 1) = true := by simp [pm_fr, h, h2]
theorem pm_fr_no {J : Nat → Nat → Bool} {col : Nat → Int32} {a i n : Nat} {c : Int32} (h1 : J a i = true) (h2 : col i = c) (hi : i < n) : pm_fr J col a c n = false := by
  obtain ⟨d, rfl⟩ : ∃ d, n = i + 1 + d := ⟨n - (i + 1), by omega⟩
  induction d with
  | zero => simp [pm_fr, h1, h2]
  | succ d ih => rw [show i + 1 + (d + 1) = (i + 1 + d) + 1 from rfl, pm_fr, ih (by omega)]; rfl
theorem pm_mulb {a b n : Nat} (ha : a ≤ 1000000) (hb : b ≤ n) (hn : n ≤ 200) : a * b ≤ 200000000 := Nat.mul_le_mul ha (Nat.le_trans hb hn)
set_option maxHeartbeats 4000000 in
set_option maxRecDepth 100000 in
theorem tX1_left {l : Launch} {D : va_G} {cI cJ cZ : ClassId} {bd : Nat → Nat} {n k : Nat} {gv : Int32} {PA C Wi CO RW IN : Nat → Int32} (J : Nat → Nat → Bool) (hJ : ∀ a b, a < 200 → b < 200 → PA (200 * a + b) = px_b (J a b)) (inn : Nat → Bool) (hn : n ≤ 200) (hI : ∀ a, a < n → IN a = px_b (inn a)) (a : Nat) (ha : a < n) : RdI l yX1_left wsX1_left (rmd 0) D (tyq cI cJ cZ) [.ref (bd 0), .int (nI a)] (w1 cI cZ bd (nI n) (nI k) gv PA C Wi CO RW IN) (nI (pm_lf J n inn a)) := by
  refine px_met (cc := cX1_left) (maxL := 4) (ret := (some .int)) (lv := [(0, .ref (bd 0)), (1, .int (nI a))]) (by decide +kernel) rfl (Nat.le_of_ble_eq_true rfl) rfl ?_
  intro p e s m below meth c ls S hr hlk hnm hv hl
  obtain ⟨hx, hb, hml, hown, hts⟩ := id S
  obtain ⟨hP, hK⟩ := hv
  have hin : ∀ w ∈ wsX10, w ∈ wsX1_left := fun w h => List.mem_cons_of_mem _ (List.mem_append_right _ h)
  have f34 := hts (.fieldLink RX1 34 "PointColoursModel" "n" "I") (by decide +kernel)
  have f27 := hts (.fieldLink RX1 27 "PointColoursModel" "in" "[Z") (by decide +kernel)
  have f10 := hts (.fieldLink RX1 10 "PointColoursModel" "pairs" "[Z") (by decide +kernel)
  have loop : ∀ (f i : Nat), n + 1 ≤ i + f → i ≤ n → ∀ ls : Array Slot, lv_has ls 4 [(2, .int (nI (pm_cn (fun b => inn b && J a b) i))), (3, .int (nI i)), (1, .int (nI a)), (0, .ref (bd 0))] → W p l e (rmd 0) s m ([.ref (bd 0), .int (nI a)] : List Value).toArray below meth c s.heap [] 0 0 (MQ below (vp_Si (fun r => r = nI (pm_lf J n inn a))) ([.ref (bd 0), .int (nI a)] : List Value).toArray s 0 0 (fun _ => False)) (F0 m 4 ls []) := by
    intro f
    induction f with
    | zero => intro i h1 h2; exact absurd h1 (by omega)
    | succ f ih =>
      intro i h1 h2 ls hl
      refine lv_iload_n hx hb dX1_left_4 rfl (lv_at hl 1 rfl) ?_
      refine lv_aload_n hx hb dX1_left_5 rfl (lv_at hl 3 rfl) ?_
      refine va_get (D := D) (ci := 1) (v := .int (nI n)) (C := RX1) (T := TX1) (N := 9) hx hb hts hin hown hK hP 0 rfl rfl 6 (by decide) f34 (fun _ h9 => h9) rfl dX1_left_6 ?_
      refine px_ge (tgt := 45) hx hb dX1_left_9 (by decide) (by omega) (by omega) (fun h9 => ?_) (fun h9 => ?_)
      · refine lv_iload_n hx hb dX1_left_45 rfl (lv_at hl 0 rfl) ?_
        obtain rfl : i = n := by omega
        exact px_ri hx hb hr hlk rfl dX1_left_46
      · refine lv_aload_n hx hb dX1_left_12 rfl (lv_at hl 3 rfl) ?_
        refine va_get (D := D) (ci := 1) (v := .ref (bd 6)) (C := RX1) (T := TX1) (N := 9) hx hb hts hin hown hK hP 0 rfl rfl 5 (by decide) f27 (fun _ h9 => h9) rfl dX1_left_13 ?_
        refine lv_iload_n hx hb dX1_left_16 rfl (lv_at hl 1 rfl) ?_
        refine px_zald (n := 200) (i := i) hx hb hK hP 6 2 rfl rfl (by omega) (by decide) dX1_left_17 ?_
        refine px_top (y := px_b (inn i)) (hI _ (by omega)) ?_
        refine px_eqb (tgt := 39) hx hb dX1_left_18 (by decide) (fun h18 => ?_) (fun h18 => ?_)
        · refine lv_iinc (v := nI (i + 1)) (lv' := [(3, .int (nI (i + 1))), (2, .int (nI (pm_cn (fun b => inn b && J a b) i))), (1, .int (nI a)), (0, .ref (bd 0))]) hx hb dX1_left_39 hl (k := 1) rfl (px_inc1 _) (by decide) rfl (fun ls hl => ?_)
          refine lv_goto (tgt := 4) hx hb dX1_left_42 (by decide) ?_
          have hs : (fun b => inn b && J a b) i = false := by simp [h18]
          exact ih (i + 1) (by omega) (by omega) ls (by rw [pm_cn_0 (f := (fun b => inn b && J a b)) hs]; exact lv_sub hl [1, 0, 2, 3] rfl)
        · refine lv_aload_n hx hb dX1_left_21 rfl (lv_at hl 3 rfl) ?_
          refine va_get (D := D) (ci := 1) (v := .ref (bd 1)) (C := RX1) (T := TX1) (N := 9) hx hb hts hin hown hK hP 0 rfl rfl 0 (by decide) f10 (fun _ h9 => h9) rfl dX1_left_22 ?_
          refine lv_sipush (v := nI 200) hx hb dX1_left_25 (by decide +kernel) ?_
          refine lv_iload_n hx hb dX1_left_28 rfl (lv_at hl 2 rfl) ?_
          refine px_mul hx hb dX1_left_29 ?_
          refine lv_iload_n hx hb dX1_left_30 rfl (lv_at hl 1 rfl) ?_
          refine px_add hx hb dX1_left_31 ?_
          refine px_zald (n := 40000) (i := ((200 * a) + i)) hx hb hK hP 1 2 rfl rfl (by omega) (by decide) dX1_left_32 ?_
          refine px_top (y := px_b (J a i)) (hJ _ _ (by omega) (by omega)) ?_
          refine px_eqb (tgt := 39) hx hb dX1_left_33 (by decide) (fun h33 => ?_) (fun h33 => ?_)
          · refine lv_iinc (v := nI (i + 1)) (lv' := [(3, .int (nI (i + 1))), (2, .int (nI (pm_cn (fun b => inn b && J a b) i))), (1, .int (nI a)), (0, .ref (bd 0))]) hx hb dX1_left_39 hl (k := 1) rfl (px_inc1 _) (by decide) rfl (fun ls hl => ?_)
            refine lv_goto (tgt := 4) hx hb dX1_left_42 (by decide) ?_
            have hs : (fun b => inn b && J a b) i = false := by simp [h33]
            exact ih (i + 1) (by omega) (by omega) ls (by rw [pm_cn_0 (f := (fun b => inn b && J a b)) hs]; exact lv_sub hl [1, 0, 2, 3] rfl)
          · refine lv_iinc (v := nI (pm_cn (fun b => inn b && J a b) i + 1)) (lv' := [(2, .int (nI (pm_cn (fun b => inn b && J a b) i + 1))), (3, .int (nI i)), (1, .int (nI a)), (0, .ref (bd 0))]) hx hb dX1_left_36 hl (k := 0) rfl (px_inc1 _) (by decide) rfl (fun ls hl => ?_)
            refine lv_iinc (v := nI (i + 1)) (lv' := [(3, .int (nI (i + 1))), (2, .int (nI (pm_cn (fun b => inn b && J a b) i + 1))), (1, .int (nI a)), (0, .ref (bd 0))]) hx hb dX1_left_39 hl (k := 1) rfl (px_inc1 _) (by decide) rfl (fun ls hl => ?_)
            refine lv_goto (tgt := 4) hx hb dX1_left_42 (by decide) ?_
            have hs : (fun b => inn b && J a b) i = true := by simp [h18, h33]
            exact ih (i + 1) (by omega) (by omega) ls (by rw [pm_cn_1 (f := (fun b => inn b && J a b)) hs]; exact lv_sub hl [1, 0, 2, 3] rfl)
  refine lv_iconst (v := nI 0) hx hb dX1_left_0 (by decide +kernel) ?_
  refine lv_istore_n (lv' := [(2, .int (nI 0)), (0, .ref (bd 0)), (1, .int (nI a))]) hx hb dX1_left_1 rfl hl (by decide) rfl (fun ls hl => ?_)
  refine lv_iconst (v := nI 0) hx hb dX1_left_2 (by decide +kernel) ?_
  refine lv_istore_n (lv' := [(3, .int (nI 0)), (2, .int (nI 0)), (0, .ref (bd 0)), (1, .int (nI a))]) hx hb dX1_left_3 rfl hl (by decide) rfl (fun ls hl => ?_)
  exact loop (n + 1) 0 (by omega) (by omega) ls (lv_sub hl [1, 0, 3, 2] rfl)
set_option maxHeartbeats 4000000 in
set_option maxRecDepth 100000 in
theorem tX1_next {l : Launch} {D : va_G} {cI cJ cZ : ClassId} {bd : Nat → Nat} {n k : Nat} {gv : Int32} {PA C Wi CO RW IN : Nat → Int32} (J : Nat → Nat → Bool) (hJ : ∀ a b, a < 200 → b < 200 → PA (200 * a + b) = px_b (J a b)) (cst : Nat → Nat) (inn : Nat → Bool) (hn : n ≤ 200) (hI : ∀ a, a < n → IN a = px_b (inn a)) (hk : k ≤ 30) (hC : ∀ a, a < 200 → C a = nI (cst a)) (hc1 : ∀ a, cst a ≤ 1000000) : RdI l yX1_next wsX1_next (rmd 1) D (tyq cI cJ cZ) [.ref (bd 0)] (w1 cI cZ bd (nI n) (nI k) gv PA C Wi CO RW IN) (pm_o (pm_nx J n k cst inn)) := by
  refine px_met (cc := cX1_next) (maxL := 3) (ret := (some .int)) (lv := [(0, .ref (bd 0))]) (by decide +kernel) rfl (Nat.le_of_ble_eq_true rfl) rfl ?_
  intro p e s m below meth c ls S hr hlk hnm hv hl
  obtain ⟨hx, hb, hml, hown, hts⟩ := id S
  obtain ⟨hP, hK⟩ := hv
  have hin : ∀ w ∈ wsX10, w ∈ wsX1_next := fun w h => List.mem_cons_of_mem _ (List.mem_append_right _ h)
  have f34 := hts (.fieldLink RX1 34 "PointColoursModel" "n" "I") (by decide +kernel)
  have f27 := hts (.fieldLink RX1 27 "PointColoursModel" "in" "[Z") (by decide +kernel)
  have f38 := hts (.fieldLink RX1 38 "PointColoursModel" "k" "I") (by decide +kernel)
  have f14 := hts (.fieldLink RX1 14 "PointColoursModel" "costs" "[I") (by decide +kernel)
  have last : pm_ft (pm_lo J n k inn) n = none → ∀ ls : Array Slot, lv_has ls 3 [(0, .ref (bd 0))] → W p l e (rmd 1) s m ([.ref (bd 0)] : List Value).toArray below meth c s.heap [] 0 0 (MQ below (vp_Si (fun r => r = pm_o (pm_nx J n k cst inn))) ([.ref (bd 0)] : List Value).toArray s 0 0 (fun _ => False)) (F0 m 39 ls []) := by
    intro hft
    have loop : ∀ (f i : Nat), n + 1 ≤ i + f → i ≤ n → ∀ ls : Array Slot, lv_has ls 3 [(1, .int (pm_o (pm_bs J n cst inn i))), (2, .int (nI i)), (0, .ref (bd 0))] → W p l e (rmd 1) s m ([.ref (bd 0)] : List Value).toArray below meth c s.heap [] 0 0 (MQ below (vp_Si (fun r => r = pm_o (pm_nx J n k cst inn))) ([.ref (bd 0)] : List Value).toArray s 0 0 (fun _ => False)) (F0 m 43 ls []) := by
      intro f
      induction f with
      | zero => intro i h1 h2; exact absurd h1 (by omega)
      | succ f ih =>
        intro i h1 h2 ls hl
        refine lv_iload_n hx hb dX1_next_43 rfl (lv_at hl 1 rfl) ?_
        refine lv_aload_n hx hb dX1_next_44 rfl (lv_at hl 2 rfl) ?_
        refine va_get (D := D) (ci := 1) (v := .int (nI n)) (C := RX1) (T := TX1) (N := 9) hx hb hts hin hown hK hP 0 rfl rfl 6 (by decide) f34 (fun _ h9 => h9) rfl dX1_next_45 ?_
        refine px_ge (tgt := 102) hx hb dX1_next_48 (by decide) (by omega) (by omega) (fun h48 => ?_) (fun h48 => ?_)
        · refine lv_iload_n hx hb dX1_next_102 rfl (lv_at hl 0 rfl) ?_
          obtain rfl : i = n := by omega
          exact px_ri hx hb hr hlk (by rw [pm_nx, hft]) dX1_next_103
        · refine lv_aload_n hx hb dX1_next_51 rfl (lv_at hl 2 rfl) ?_
          refine va_get (D := D) (ci := 1) (v := .ref (bd 6)) (C := RX1) (T := TX1) (N := 9) hx hb hts hin hown hK hP 0 rfl rfl 5 (by decide) f27 (fun _ h9 => h9) rfl dX1_next_52 ?_
          refine lv_iload_n hx hb dX1_next_55 rfl (lv_at hl 1 rfl) ?_
          refine px_zald (n := 200) (i := i) hx hb hK hP 6 2 rfl rfl (by omega) (by decide) dX1_next_56 ?_
          refine px_top (y := px_b (inn i)) (hI _ (by omega)) ?_
          refine px_neb (tgt := 63) hx hb dX1_next_57 (by decide) (fun h57 => ?_) (fun h57 => ?_)
          · cases hB : pm_bs J n cst inn i with
            | none =>
              have hl : lv_has ls 3 [(1, .int (-1)), (2, .int (nI i)), (0, .ref (bd 0))] := by rw [hB] at hl; exact hl
              refine lv_iload_n hx hb dX1_next_63 rfl (lv_at hl 0 rfl) ?_
              refine lv_if_lt (tgt := 94) hx hb dX1_next_64 (by decide) (fun h64 => ?_) (fun h64 => ?_)
              rotate_left
              · exact absurd (by decide +kernel) h64
              refine lv_iload_n hx hb dX1_next_94 rfl (lv_at hl 1 rfl) ?_
              refine lv_istore_n (lv' := [(1, .int (nI i)), (2, .int (nI i)), (0, .ref (bd 0))]) hx hb dX1_next_95 rfl hl (by decide) rfl (fun ls hl => ?_)
              refine lv_iinc (v := nI (i + 1)) (lv' := [(2, .int (nI (i + 1))), (1, .int (nI i)), (0, .ref (bd 0))]) hx hb dX1_next_96 hl (k := 1) rfl (px_inc1 _) (by decide) rfl (fun ls hl => ?_)
              refine lv_goto (tgt := 43) hx hb dX1_next_99 (by decide) ?_
              have e : pm_bs J n cst inn (i + 1) = some i := by simp [pm_bs, h57, hB]
              exact ih (i + 1) (by omega) (by omega) ls (by rw [e]; exact lv_sub hl [1, 0, 2] rfl)
            | some b =>
              have hbi := pm_bs_lt hB
              have hm1 := pm_mulb (hc1 i) (pm_lf_le J n inn b) hn
              have hm2 := pm_mulb (hc1 b) (pm_lf_le J n inn i) hn
              have hl : lv_has ls 3 [(1, .int (nI b)), (2, .int (nI i)), (0, .ref (bd 0))] := by rw [hB] at hl; exact hl
              refine lv_iload_n hx hb dX1_next_63 rfl (lv_at hl 0 rfl) ?_
              refine lv_if_lt (tgt := 94) hx hb dX1_next_64 (by decide) (fun h64 => ?_) (fun h64 => ?_)
              · exact absurd h64 (nI_pos (by omega))
              refine lv_aload_n hx hb dX1_next_67 rfl (lv_at hl 2 rfl) ?_
              refine va_get (D := D) (ci := 1) (v := .ref (bd 2)) (C := RX1) (T := TX1) (N := 9) hx hb hts hin hown hK hP 0 rfl rfl 1 (by decide) f14 (fun _ h9 => h9) rfl dX1_next_68 ?_
              refine lv_iload_n hx hb dX1_next_71 rfl (lv_at hl 1 rfl) ?_
              refine px_iald (n := 200) (i := i) hx hb hK hP 2 0 rfl rfl (by omega) (by decide) dX1_next_72 ?_
              refine px_top (y := nI (cst i)) (hC _ (by omega)) ?_
              refine lv_aload_n hx hb dX1_next_73 rfl (lv_at hl 2 rfl) ?_
              refine lv_iload_n hx hb dX1_next_74 rfl (lv_at hl 0 rfl) ?_
              refine px_rd (ci := 1) (q := (RX1, TX1, 9)) (v := nI (pm_lf J n inn b)) (rest := [.int (nI (cst i))]) S hP hK (tX1_left J hJ inn hn hI b (by omega)) (cwV 1 hts gX1_next_X1_left rfl rfl rfl (by decide +kernel) ⟨by decide, by decide⟩) rfl rfl rfl hl.1 rfl (Nat.le_of_ble_eq_true rfl) dX1_next_75 ⟨Nat.zero_le _, Nat.zero_le _⟩ ?_
              refine px_mul hx hb dX1_next_78 ?_
              refine lv_aload_n hx hb dX1_next_79 rfl (lv_at hl 2 rfl) ?_
              refine va_get (D := D) (ci := 1) (v := .ref (bd 2)) (C := RX1) (T := TX1) (N := 9) hx hb hts hin hown hK hP 0 rfl rfl 1 (by decide) f14 (fun _ h9 => h9) rfl dX1_next_80 ?_
              refine lv_iload_n hx hb dX1_next_83 rfl (lv_at hl 0 rfl) ?_
              refine px_iald (n := 200) (i := b) hx hb hK hP 2 0 rfl rfl (by omega) (by decide) dX1_next_84 ?_
              refine px_top (y := nI (cst b)) (hC _ (by omega)) ?_
              refine lv_aload_n hx hb dX1_next_85 rfl (lv_at hl 2 rfl) ?_
              refine lv_iload_n hx hb dX1_next_86 rfl (lv_at hl 1 rfl) ?_
              refine px_rd (ci := 1) (q := (RX1, TX1, 9)) (v := nI (pm_lf J n inn i)) (rest := [.int (nI (cst b)), .int (nI ((cst i) * (pm_lf J n inn b)))]) S hP hK (tX1_left J hJ inn hn hI i (by omega)) (cwV 1 hts gX1_next_X1_left rfl rfl rfl (by decide +kernel) ⟨by decide, by decide⟩) rfl rfl rfl hl.1 rfl (Nat.le_of_ble_eq_true rfl) dX1_next_87 ⟨Nat.zero_le _, Nat.zero_le _⟩ ?_
              refine px_mul hx hb dX1_next_90 ?_
              refine px_ge (tgt := 96) hx hb dX1_next_91 (by decide) (by omega) (by omega) (fun h91 => ?_) (fun h91 => ?_)
              · refine lv_iinc (v := nI (i + 1)) (lv' := [(2, .int (nI (i + 1))), (1, .int (nI b)), (0, .ref (bd 0))]) hx hb dX1_next_96 hl (k := 1) rfl (px_inc1 _) (by decide) rfl (fun ls hl => ?_)
                refine lv_goto (tgt := 43) hx hb dX1_next_99 (by decide) ?_
                have e : pm_bs J n cst inn (i + 1) = some b := by simp [pm_bs, h57, hB, Nat.not_lt.mpr h91]
                exact ih (i + 1) (by omega) (by omega) ls (by rw [e]; exact lv_sub hl [1, 0, 2] rfl)
              · refine lv_iload_n hx hb dX1_next_94 rfl (lv_at hl 1 rfl) ?_
                refine lv_istore_n (lv' := [(1, .int (nI i)), (2, .int (nI i)), (0, .ref (bd 0))]) hx hb dX1_next_95 rfl hl (by decide) rfl (fun ls hl => ?_)
                refine lv_iinc (v := nI (i + 1)) (lv' := [(2, .int (nI (i + 1))), (1, .int (nI i)), (0, .ref (bd 0))]) hx hb dX1_next_96 hl (k := 1) rfl (px_inc1 _) (by decide) rfl (fun ls hl => ?_)
                refine lv_goto (tgt := 43) hx hb dX1_next_99 (by decide) ?_
                have e : pm_bs J n cst inn (i + 1) = some i := by simp [pm_bs, h57, hB, h91]
                exact ih (i + 1) (by omega) (by omega) ls (by rw [e]; exact lv_sub hl [1, 0, 2] rfl)
          · refine lv_goto (tgt := 96) hx hb dX1_next_60 (by decide) ?_
            refine lv_iinc (v := nI (i + 1)) (lv' := [(2, .int (nI (i + 1))), (1, .int (pm_o (pm_bs J n cst inn i))), (0, .ref (bd 0))]) hx hb dX1_next_96 hl (k := 1) rfl (px_inc1 _) (by decide) rfl (fun ls hl => ?_)
            refine lv_goto (tgt := 43) hx hb dX1_next_99 (by decide) ?_
            have e : pm_bs J n cst inn (i + 1) = pm_bs J n cst inn i := by simp [pm_bs, h57]
            exact ih (i + 1) (by omega) (by omega) ls (by rw [e]; exact lv_sub hl [1, 0, 2] rfl)
    intro ls hl
    refine lv_iconst (v := -1) hx hb dX1_next_39 (by decide +kernel) ?_
    refine lv_istore_n (lv' := [(1, .int (-1)), (0, .ref (bd 0))]) hx hb dX1_next_40 rfl hl (by decide) rfl (fun ls hl => ?_)
    refine lv_iconst (v := nI 0) hx hb dX1_next_41 (by decide +kernel) ?_
    refine lv_istore_n (lv' := [(2, .int (nI 0)), (1, .int (-1)), (0, .ref (bd 0))]) hx hb dX1_next_42 rfl hl (by decide) rfl (fun ls hl => ?_)
    exact loop (n + 1) 0 (by omega) (by omega) ls (lv_sub hl [1, 0, 2] rfl)
  have loop : ∀ (f i : Nat), n + 1 ≤ i + f → i ≤ n → pm_ft (pm_lo J n k inn) i = none → ∀ ls : Array Slot, lv_has ls 3 [(1, .int (nI i)), (0, .ref (bd 0))] → W p l e (rmd 1) s m ([.ref (bd 0)] : List Value).toArray below meth c s.heap [] 0 0 (MQ below (vp_Si (fun r => r = pm_o (pm_nx J n k cst inn))) ([.ref (bd 0)] : List Value).toArray s 0 0 (fun _ => False)) (F0 m 2 ls []) := by
    intro f
    induction f with
    | zero => intro i h1 h2; exact absurd h1 (by omega)
    | succ f ih =>
      intro i h1 h2 hft ls hl
      refine lv_iload_n hx hb dX1_next_2 rfl (lv_at hl 0 rfl) ?_
      refine lv_aload_n hx hb dX1_next_3 rfl (lv_at hl 1 rfl) ?_
      refine va_get (D := D) (ci := 1) (v := .int (nI n)) (C := RX1) (T := TX1) (N := 9) hx hb hts hin hown hK hP 0 rfl rfl 6 (by decide) f34 (fun _ h9 => h9) rfl dX1_next_4 ?_
      refine px_ge (tgt := 39) hx hb dX1_next_7 (by decide) (by omega) (by omega) (fun h7 => ?_) (fun h7 => ?_)
      · obtain rfl : i = n := by omega
        exact last hft ls (lv_sub hl [1] rfl)
      · refine lv_aload_n hx hb dX1_next_10 rfl (lv_at hl 1 rfl) ?_
        refine va_get (D := D) (ci := 1) (v := .ref (bd 6)) (C := RX1) (T := TX1) (N := 9) hx hb hts hin hown hK hP 0 rfl rfl 5 (by decide) f27 (fun _ h9 => h9) rfl dX1_next_11 ?_
        refine lv_iload_n hx hb dX1_next_14 rfl (lv_at hl 0 rfl) ?_
        refine px_zald (n := 200) (i := i) hx hb hK hP 6 2 rfl rfl (by omega) (by decide) dX1_next_15 ?_
        refine px_top (y := px_b (inn i)) (hI _ (by omega)) ?_
        refine px_eqb (tgt := 33) hx hb dX1_next_16 (by decide) (fun h16 => ?_) (fun h16 => ?_)
        · refine lv_iinc (v := nI (i + 1)) (lv' := [(1, .int (nI (i + 1))), (0, .ref (bd 0))]) hx hb dX1_next_33 hl (k := 0) rfl (px_inc1 _) (by decide) rfl (fun ls hl => ?_)
          refine lv_goto (tgt := 2) hx hb dX1_next_36 (by decide) ?_
          have hlo : pm_lo J n k inn i = false := by simp [pm_lo, h16]
          exact ih (i + 1) (by omega) (by omega) (pm_ft_none hft hlo) ls (lv_sub hl [0, 1] rfl)
        · refine lv_aload_n hx hb dX1_next_19 rfl (lv_at hl 1 rfl) ?_
          refine lv_iload_n hx hb dX1_next_20 rfl (lv_at hl 0 rfl) ?_
          refine px_rd (ci := 1) (q := (RX1, TX1, 9)) (v := nI (pm_lf J n inn i)) (rest := []) S hP hK (tX1_left J hJ inn hn hI i (by omega)) (cwV 1 hts gX1_next_X1_left rfl rfl rfl (by decide +kernel) ⟨by decide, by decide⟩) rfl rfl rfl hl.1 rfl (Nat.le_of_ble_eq_true rfl) dX1_next_21 ⟨Nat.zero_le _, Nat.zero_le _⟩ ?_
          have hlf := pm_lf_le J n inn i
          refine lv_aload_n hx hb dX1_next_24 rfl (lv_at hl 1 rfl) ?_
          refine va_get (D := D) (ci := 1) (v := .int (nI k)) (C := RX1) (T := TX1) (N := 9) hx hb hts hin hown hK hP 0 rfl rfl 7 (by decide) f38 (fun _ h9 => h9) rfl dX1_next_25 ?_
          refine px_ge (tgt := 33) hx hb dX1_next_28 (by decide) (by omega) (by omega) (fun h28 => ?_) (fun h28 => ?_)
          · refine lv_iinc (v := nI (i + 1)) (lv' := [(1, .int (nI (i + 1))), (0, .ref (bd 0))]) hx hb dX1_next_33 hl (k := 0) rfl (px_inc1 _) (by decide) rfl (fun ls hl => ?_)
            refine lv_goto (tgt := 2) hx hb dX1_next_36 (by decide) ?_
            have hlo : pm_lo J n k inn i = false := by simp [pm_lo, h16]; exact h28
            exact ih (i + 1) (by omega) (by omega) (pm_ft_none hft hlo) ls (lv_sub hl [0, 1] rfl)
          · refine lv_iload_n hx hb dX1_next_31 rfl (lv_at hl 0 rfl) ?_
            exact px_ri hx hb hr hlk (by rw [pm_nx, pm_ft_here hft (by simp [pm_lo, h16, h28]) (by omega)]; rfl) dX1_next_32
  refine lv_iconst (v := nI 0) hx hb dX1_next_0 (by decide +kernel) ?_
  refine lv_istore_n (lv' := [(1, .int (nI 0)), (0, .ref (bd 0))]) hx hb dX1_next_1 rfl hl (by decide) rfl (fun ls hl => ?_)
  exact loop (n + 1) 0 (by omega) (by omega) rfl ls (lv_sub hl [0, 1] rfl)
set_option maxHeartbeats 4000000 in
set_option maxRecDepth 100000 in
theorem tX1_isFree {l : Launch} {D : va_G} {cI cJ cZ : ClassId} {bd : Nat → Nat} {n k : Nat} {gv : Int32} {PA C Wi CO RW IN : Nat → Int32} (J : Nat → Nat → Bool) (hJ : ∀ a b, a < 200 → b < 200 → PA (200 * a + b) = px_b (J a b)) (hn : n ≤ 200) (a : Nat) (ha : a < n) (x : Int32) : RdI l yX1_isFree wsX1_isFree (rmd 0) D (tyq cI cJ cZ) [.ref (bd 0), .int (nI a), .int x] (w1 cI cZ bd (nI n) (nI k) gv PA C Wi CO RW IN) (px_b (pm_fr J CO a x n)) := by
  refine px_met (cc := cX1_isFree) (maxL := 4) (ret := (some .boolean)) (lv := [(0, .ref (bd 0)), (1, .int (nI a)), (2, .int x)]) (by decide +kernel) rfl (Nat.le_of_ble_eq_true rfl) rfl ?_
  intro p e s m below meth c ls S hr hlk hnm hv hl
  obtain ⟨hx, hb, hml, hown, hts⟩ := id S
  obtain ⟨hP, hK⟩ := hv
  have hin : ∀ w ∈ wsX10, w ∈ wsX1_isFree := fun w h => List.mem_cons_of_mem _ (List.mem_append_right _ h)
  have f34 := hts (.fieldLink RX1 34 "PointColoursModel" "n" "I") (by decide +kernel)
  have f10 := hts (.fieldLink RX1 10 "PointColoursModel" "pairs" "[Z") (by decide +kernel)
  have f21 := hts (.fieldLink RX1 21 "PointColoursModel" "colours" "[I") (by decide +kernel)
  have loop : ∀ (f i : Nat), n + 1 ≤ i + f → i ≤ n → pm_fr J CO a x i = true → ∀ ls : Array Slot, lv_has ls 4 [(3, .int (nI i)), (2, .int x), (1, .int (nI a)), (0, .ref (bd 0))] → W p l e (rmd 0) s m ([.ref (bd 0), .int (nI a), .int x] : List Value).toArray below meth c s.heap [] 0 0 (MQ below (vp_Si (fun r => r = px_b (pm_fr J CO a x n))) ([.ref (bd 0), .int (nI a), .int x] : List Value).toArray s 0 0 (fun _ => False)) (F0 m 2 ls []) := by
    intro f
    induction f with
    | zero => intro i h1 h2; exact absurd h1 (by omega)
    | succ f ih =>
      intro i h1 h2 hfr ls hl
      refine lv_iload_n hx hb dX1_isFree_2 rfl (lv_at hl 0 rfl) ?_
      refine lv_aload_n hx hb dX1_isFree_3 rfl (lv_at hl 3 rfl) ?_
      refine va_get (D := D) (ci := 1) (v := .int (nI n)) (C := RX1) (T := TX1) (N := 9) hx hb hts hin hown hK hP 0 rfl rfl 6 (by decide) f34 (fun _ h9 => h9) rfl dX1_isFree_4 ?_
      refine px_ge (tgt := 43) hx hb dX1_isFree_7 (by decide) (by omega) (by omega) (fun h7 => ?_) (fun h7 => ?_)
      · refine lv_iconst (v := px_b true) hx hb dX1_isFree_43 (by decide +kernel) ?_
        obtain rfl : i = n := by omega
        exact px_rz hx hb hr hlk (by rw [hfr]) dX1_isFree_44
      · refine lv_aload_n hx hb dX1_isFree_10 rfl (lv_at hl 3 rfl) ?_
        refine va_get (D := D) (ci := 1) (v := .ref (bd 1)) (C := RX1) (T := TX1) (N := 9) hx hb hts hin hown hK hP 0 rfl rfl 0 (by decide) f10 (fun _ h9 => h9) rfl dX1_isFree_11 ?_
        refine lv_sipush (v := nI 200) hx hb dX1_isFree_14 (by decide +kernel) ?_
        refine lv_iload_n hx hb dX1_isFree_17 rfl (lv_at hl 2 rfl) ?_
        refine px_mul hx hb dX1_isFree_18 ?_
        refine lv_iload_n hx hb dX1_isFree_19 rfl (lv_at hl 0 rfl) ?_
        refine px_add hx hb dX1_isFree_20 ?_
        refine px_zald (n := 40000) (i := ((200 * a) + i)) hx hb hK hP 1 2 rfl rfl (by omega) (by decide) dX1_isFree_21 ?_
        refine px_top (y := px_b (J a i)) (hJ _ _ (by omega) (by omega)) ?_
        refine px_eqb (tgt := 37) hx hb dX1_isFree_22 (by decide) (fun h22 => ?_) (fun h22 => ?_)
        · refine lv_iinc (v := nI (i + 1)) (lv' := [(3, .int (nI (i + 1))), (2, .int x), (1, .int (nI a)), (0, .ref (bd 0))]) hx hb dX1_isFree_37 hl (k := 0) rfl (px_inc1 _) (by decide) rfl (fun ls hl => ?_)
          refine lv_goto (tgt := 2) hx hb dX1_isFree_40 (by decide) ?_
          exact ih (i + 1) (by omega) (by omega) (pm_fr_step hfr (by simp [h22])) ls (lv_sub hl [0, 1, 2, 3] rfl)
        · refine lv_aload_n hx hb dX1_isFree_25 rfl (lv_at hl 3 rfl) ?_
          refine va_get (D := D) (ci := 1) (v := .ref (bd 4)) (C := RX1) (T := TX1) (N := 9) hx hb hts hin hown hK hP 0 rfl rfl 3 (by decide) f21 (fun _ h9 => h9) rfl dX1_isFree_26 ?_
          refine lv_iload_n hx hb dX1_isFree_29 rfl (lv_at hl 0 rfl) ?_
          refine px_iald (n := 200) (i := i) hx hb hK hP 4 0 rfl rfl (by omega) (by decide) dX1_isFree_30 ?_
          refine lv_iload_n hx hb dX1_isFree_31 rfl (lv_at hl 1 rfl) ?_
          refine lv_icmp_ne (tgt := 37) hx hb dX1_isFree_32 (by decide) (fun h32 => ?_) (fun h32 => ?_)
          · refine lv_iinc (v := nI (i + 1)) (lv' := [(3, .int (nI (i + 1))), (2, .int x), (1, .int (nI a)), (0, .ref (bd 0))]) hx hb dX1_isFree_37 hl (k := 0) rfl (px_inc1 _) (by decide) rfl (fun ls hl => ?_)
            refine lv_goto (tgt := 2) hx hb dX1_isFree_40 (by decide) ?_
            exact ih (i + 1) (by omega) (by omega) (pm_fr_step hfr (by simp [h32])) ls (lv_sub hl [0, 1, 2, 3] rfl)
          · refine lv_iconst (v := px_b false) hx hb dX1_isFree_35 (by decide +kernel) ?_
            exact px_rz hx hb hr hlk (by rw [pm_fr_no h22 (by first | exact h32 | exact Decidable.not_not.mp h32) (by omega)]) dX1_isFree_36
  refine lv_iconst (v := nI 0) hx hb dX1_isFree_0 (by decide +kernel) ?_
  refine lv_istore_n (lv' := [(3, .int (nI 0)), (0, .ref (bd 0)), (1, .int (nI a)), (2, .int x)]) hx hb dX1_isFree_1 rfl hl (by decide) rfl (fun ls hl => ?_)
  exact loop (n + 1) 0 (by omega) (by omega) rfl ls (lv_sub hl [0, 3, 2, 1] rfl)
set_option maxHeartbeats 4000000 in
set_option maxRecDepth 100000 in
theorem tX1_colourFor {l : Launch} {D : va_G} {cI cJ cZ : ClassId} {bd : Nat → Nat} {n k : Nat} {gv : Int32} {PA C Wi CO RW IN : Nat → Int32} (J : Nat → Nat → Bool) (hJ : ∀ a b, a < 200 → b < 200 → PA (200 * a + b) = px_b (J a b)) (ws : Nat → Nat) (hn : n ≤ 200) (hk : k ≤ 30) (a : Nat) (ha : a < n) (hwn : ws a < n) (hW : Wi a = nI (ws a)) : RdI l yX1_colourFor wsX1_colourFor (rmd 1) D (tyq cI cJ cZ) [.ref (bd 0), .int (nI a)] (w1 cI cZ bd (nI n) (nI k) gv PA C Wi CO RW IN) (pm_ch J n k ws CO a) := by
  refine px_met (cc := cX1_colourFor) (maxL := 4) (ret := (some .int)) (lv := [(0, .ref (bd 0)), (1, .int (nI a))]) (by decide +kernel) rfl (Nat.le_of_ble_eq_true rfl) rfl ?_
  intro p e s m below meth c ls S hr hlk hnm hv hl
  obtain ⟨hx, hb, hml, hown, hts⟩ := id S
  obtain ⟨hP, hK⟩ := hv
  have hin : ∀ w ∈ wsX10, w ∈ wsX1_colourFor := fun w h => List.mem_cons_of_mem _ (List.mem_append_right _ h)
  have f18 := hts (.fieldLink RX1 18 "PointColoursModel" "wishes" "[I") (by decide +kernel)
  have f21 := hts (.fieldLink RX1 21 "PointColoursModel" "colours" "[I") (by decide +kernel)
  have f38 := hts (.fieldLink RX1 38 "PointColoursModel" "k" "I") (by decide +kernel)
  have loop : ∀ (f i : Nat), ¬ (ws a ≠ a ∧ ¬ CO (ws a) < 0 ∧ pm_fr J CO a (CO (ws a)) n = true) → k + 1 ≤ i + f → i ≤ k → pm_ft (fun c => pm_fr J CO a (nI c) n) i = none → ∀ ls : Array Slot, lv_has ls 4 [(3, .int (nI i)), (1, .int (nI a)), (0, .ref (bd 0))] → W p l e (rmd 1) s m ([.ref (bd 0), .int (nI a)] : List Value).toArray below meth c s.heap [] 0 0 (MQ below (vp_Si (fun r => r = pm_ch J n k ws CO a)) ([.ref (bd 0), .int (nI a)] : List Value).toArray s 0 0 (fun _ => False)) (F0 m 44 ls []) := by
    intro f
    induction f with
    | zero => intro i _ h1 h2; exact absurd h1 (by omega)
    | succ f ih =>
      intro i hno h1 h2 hft ls hl
      have ih := fun i => ih i hno
      refine lv_iload_n hx hb dX1_colourFor_44 rfl (lv_at hl 0 rfl) ?_
      refine lv_aload_n hx hb dX1_colourFor_45 rfl (lv_at hl 2 rfl) ?_
      refine va_get (D := D) (ci := 1) (v := .int (nI k)) (C := RX1) (T := TX1) (N := 9) hx hb hts hin hown hK hP 0 rfl rfl 7 (by decide) f38 (fun _ h9 => h9) rfl dX1_colourFor_46 ?_
      refine px_ge (tgt := 69) hx hb dX1_colourFor_49 (by decide) (by omega) (by omega) (fun h49 => ?_) (fun h49 => ?_)
      · refine lv_iconst (v := -1) hx hb dX1_colourFor_69 (by decide +kernel) ?_
        obtain rfl : i = k := by omega
        exact px_ri hx hb hr hlk (by rw [pm_ch, if_neg hno, hft]; rfl) dX1_colourFor_70
      · refine lv_aload_n hx hb dX1_colourFor_52 rfl (lv_at hl 2 rfl) ?_
        refine lv_iload_n hx hb dX1_colourFor_53 rfl (lv_at hl 1 rfl) ?_
        refine lv_iload_n hx hb dX1_colourFor_54 rfl (lv_at hl 0 rfl) ?_
        refine px_rd (ci := 1) (q := (RX1, TX1, 9)) (v := px_b (pm_fr J CO a (nI i) n)) (rest := []) S hP hK (tX1_isFree J hJ hn a ha (nI i)) (cwV 2 hts gX1_colourFor_X1_isFree rfl rfl rfl (by decide +kernel) ⟨by decide, by decide⟩) rfl rfl rfl hl.1 rfl (Nat.le_of_ble_eq_true rfl) dX1_colourFor_55 ⟨Nat.zero_le _, Nat.zero_le _⟩ ?_
        refine px_eqb (tgt := 63) hx hb dX1_colourFor_58 (by decide) (fun h58 => ?_) (fun h58 => ?_)
        · refine lv_iinc (v := nI (i + 1)) (lv' := [(3, .int (nI (i + 1))), (1, .int (nI a)), (0, .ref (bd 0))]) hx hb dX1_colourFor_63 hl (k := 0) rfl (px_inc1 _) (by decide) rfl (fun ls hl => ?_)
          refine lv_goto (tgt := 44) hx hb dX1_colourFor_66 (by decide) ?_
          exact ih (i + 1) (by omega) (by omega) (pm_ft_none hft h58) ls (lv_sub hl [0, 1, 2] rfl)
        · refine lv_iload_n hx hb dX1_colourFor_61 rfl (lv_at hl 0 rfl) ?_
          exact px_ri hx hb hr hlk (by rw [pm_ch, if_neg hno, pm_ft_here (f := (fun c => pm_fr J CO a (nI c) n)) hft h58 (by omega)]; rfl) dX1_colourFor_62
  refine lv_aload_n hx hb dX1_colourFor_0 rfl (lv_at hl 0 rfl) ?_
  refine va_get (D := D) (ci := 1) (v := .ref (bd 3)) (C := RX1) (T := TX1) (N := 9) hx hb hts hin hown hK hP 0 rfl rfl 2 (by decide) f18 (fun _ h9 => h9) rfl dX1_colourFor_1 ?_
  refine lv_iload_n hx hb dX1_colourFor_4 rfl (lv_at hl 1 rfl) ?_
  refine px_iald (n := 200) (i := a) hx hb hK hP 3 0 rfl rfl (by omega) (by decide) dX1_colourFor_5 ?_
  refine px_top (y := nI (ws a)) (hW) ?_
  refine lv_istore_n (lv' := [(2, .int (nI (ws a))), (0, .ref (bd 0)), (1, .int (nI a))]) hx hb dX1_colourFor_6 rfl hl (by decide) rfl (fun ls hl => ?_)
  refine lv_iload_n hx hb dX1_colourFor_7 rfl (lv_at hl 0 rfl) ?_
  refine lv_iload_n hx hb dX1_colourFor_8 rfl (lv_at hl 2 rfl) ?_
  refine px_eq (tgt := 42) hx hb dX1_colourFor_9 (by decide) (by omega) (by omega) (fun h9 => ?_) (fun h9 => ?_)
  · refine lv_iconst (v := nI 0) hx hb dX1_colourFor_42 (by decide +kernel) ?_
    refine lv_istore_n (lv' := [(3, .int (nI 0)), (2, .int (nI (ws a))), (0, .ref (bd 0)), (1, .int (nI a))]) hx hb dX1_colourFor_43 rfl hl (by decide) rfl (fun ls hl => ?_)
    exact loop (k + 1) 0 (fun hh => by exact hh.1 h9) (by omega) (by omega) rfl ls (lv_sub hl [0, 3, 2] rfl)
  · refine lv_aload_n hx hb dX1_colourFor_12 rfl (lv_at hl 1 rfl) ?_
    refine va_get (D := D) (ci := 1) (v := .ref (bd 4)) (C := RX1) (T := TX1) (N := 9) hx hb hts hin hown hK hP 0 rfl rfl 3 (by decide) f21 (fun _ h9 => h9) rfl dX1_colourFor_13 ?_
    refine lv_iload_n hx hb dX1_colourFor_16 rfl (lv_at hl 0 rfl) ?_
    refine px_iald (n := 200) (i := (ws a)) hx hb hK hP 4 0 rfl rfl (by omega) (by decide) dX1_colourFor_17 ?_
    refine lv_if_lt (tgt := 42) hx hb dX1_colourFor_18 (by decide) (fun h18 => ?_) (fun h18 => ?_)
    · refine lv_iconst (v := nI 0) hx hb dX1_colourFor_42 (by decide +kernel) ?_
      refine lv_istore_n (lv' := [(3, .int (nI 0)), (2, .int (nI (ws a))), (0, .ref (bd 0)), (1, .int (nI a))]) hx hb dX1_colourFor_43 rfl hl (by decide) rfl (fun ls hl => ?_)
      exact loop (k + 1) 0 (fun hh => by exact hh.2.1 h18) (by omega) (by omega) rfl ls (lv_sub hl [0, 3, 2] rfl)
    · refine lv_aload_n hx hb dX1_colourFor_21 rfl (lv_at hl 1 rfl) ?_
      refine lv_iload_n hx hb dX1_colourFor_22 rfl (lv_at hl 2 rfl) ?_
      refine lv_aload_n hx hb dX1_colourFor_23 rfl (lv_at hl 1 rfl) ?_
      refine va_get (D := D) (ci := 1) (v := .ref (bd 4)) (C := RX1) (T := TX1) (N := 9) hx hb hts hin hown hK hP 0 rfl rfl 3 (by decide) f21 (fun _ h9 => h9) rfl dX1_colourFor_24 ?_
      refine lv_iload_n hx hb dX1_colourFor_27 rfl (lv_at hl 0 rfl) ?_
      refine px_iald (n := 200) (i := (ws a)) hx hb hK hP 4 0 rfl rfl (by omega) (by decide) dX1_colourFor_28 ?_
      refine px_rd (ci := 1) (q := (RX1, TX1, 9)) (v := px_b (pm_fr J CO a (CO (ws a)) n)) (rest := []) S hP hK (tX1_isFree J hJ hn a ha (CO (ws a))) (cwV 2 hts gX1_colourFor_X1_isFree rfl rfl rfl (by decide +kernel) ⟨by decide, by decide⟩) rfl rfl rfl hl.1 rfl (Nat.le_of_ble_eq_true rfl) dX1_colourFor_29 ⟨Nat.zero_le _, Nat.zero_le _⟩ ?_
      refine px_eqb (tgt := 42) hx hb dX1_colourFor_32 (by decide) (fun h32 => ?_) (fun h32 => ?_)
      · refine lv_iconst (v := nI 0) hx hb dX1_colourFor_42 (by decide +kernel) ?_
        refine lv_istore_n (lv' := [(3, .int (nI 0)), (2, .int (nI (ws a))), (0, .ref (bd 0)), (1, .int (nI a))]) hx hb dX1_colourFor_43 rfl hl (by decide) rfl (fun ls hl => ?_)
        exact loop (k + 1) 0 (fun hh => by rw [hh.2.2] at h32; cases h32) (by omega) (by omega) rfl ls (lv_sub hl [0, 3, 2] rfl)
      · refine lv_aload_n hx hb dX1_colourFor_35 rfl (lv_at hl 1 rfl) ?_
        refine va_get (D := D) (ci := 1) (v := .ref (bd 4)) (C := RX1) (T := TX1) (N := 9) hx hb hts hin hown hK hP 0 rfl rfl 3 (by decide) f21 (fun _ h9 => h9) rfl dX1_colourFor_36 ?_
        refine lv_iload_n hx hb dX1_colourFor_39 rfl (lv_at hl 0 rfl) ?_
        refine px_iald (n := 200) (i := (ws a)) hx hb hK hP 4 0 rfl rfl (by omega) (by decide) dX1_colourFor_40 ?_
        exact px_ri hx hb hr hlk (by rw [pm_ch, if_pos ⟨h9, h18, h32⟩]) dX1_colourFor_41
set_option maxHeartbeats 4000000 in
set_option maxRecDepth 100000 in
theorem tX1_degree {l : Launch} {D : va_G} {cI cJ cZ : ClassId} {bd : Nat → Nat} {n k : Nat} {gv : Int32} {PA C Wi CO RW IN : Nat → Int32} (J : Nat → Nat → Bool) (hJ : ∀ a b, a < 200 → b < 200 → PA (200 * a + b) = px_b (J a b)) (hn : n ≤ 200) (a : Int32) : RdI l yX1_degree wsX1_degree (rmd 1) D (tyq cI cJ cZ) [.ref (bd 0), .int a] (w1 cI cZ bd (nI n) (nI k) gv PA C Wi CO RW IN) (pm_rd true n (fun a => nI (pm_cn (J a) n)) a) := by
  refine px_met (cc := cX1_degree) (maxL := 4) (ret := (some .int)) (lv := [(0, .ref (bd 0)), (1, .int a)]) (by decide +kernel) rfl (Nat.le_of_ble_eq_true rfl) rfl ?_
  intro p e s m below meth c ls S hr hlk hnm hv hl
  obtain ⟨hx, hb, hml, hown, hts⟩ := id S
  obtain ⟨hP, hK⟩ := hv
  have hin : ∀ w ∈ wsX10, w ∈ wsX1_degree := fun w h => List.mem_cons_of_mem _ (List.mem_append_right _ h)
  have f34 := hts (.fieldLink RX1 34 "PointColoursModel" "n" "I") (by decide +kernel)
  have f10 := hts (.fieldLink RX1 10 "PointColoursModel" "pairs" "[Z") (by decide +kernel)
  refine lv_aload_n hx hb dX1_degree_0 rfl (lv_at hl 0 rfl) ?_
  refine lv_iload_n hx hb dX1_degree_1 rfl (lv_at hl 1 rfl) ?_
  refine px_rd (ci := 1) (q := (RX1, TX1, 9)) (v := px_b (pm_pt n a)) (rest := []) S hP hK (tX1_isPoint (by omega) a) (cwV 1 hts gX1_degree_X1_isPoint rfl rfl rfl (by decide +kernel) ⟨by decide, by decide⟩) rfl rfl rfl hl.1 rfl (Nat.le_of_ble_eq_true rfl) dX1_degree_2 ⟨Nat.zero_le _, Nat.zero_le _⟩ ?_
  refine px_neb (tgt := 10) hx hb dX1_degree_5 (by decide) (fun h5 => ?_) (fun h5 => ?_)
  · obtain ⟨j, hj, rfl⟩ := pm_pt_of (by omega) h5
    have loop : ∀ (f i : Nat), n + 1 ≤ i + f → i ≤ n → ∀ ls : Array Slot, lv_has ls 4 [(2, .int (nI (pm_cn (J j) i))), (3, .int (nI i)), (1, .int (nI j)), (0, .ref (bd 0))] → W p l e (rmd 1) s m ([.ref (bd 0), .int (nI j)] : List Value).toArray below meth c s.heap [] 0 0 (MQ below (vp_Si (fun r => r = pm_rd true n (fun a => nI (pm_cn (J a) n)) (nI j))) ([.ref (bd 0), .int (nI j)] : List Value).toArray s 0 0 (fun _ => False)) (F0 m 14 ls []) := by
      intro f
      induction f with
      | zero => intro i h1 h2; exact absurd h1 (by omega)
      | succ f ih =>
        intro i h1 h2 ls hl
        refine lv_iload_n hx hb dX1_degree_14 rfl (lv_at hl 1 rfl) ?_
        refine lv_aload_n hx hb dX1_degree_15 rfl (lv_at hl 3 rfl) ?_
        refine va_get (D := D) (ci := 1) (v := .int (nI n)) (C := RX1) (T := TX1) (N := 9) hx hb hts hin hown hK hP 0 rfl rfl 6 (by decide) f34 (fun _ h9 => h9) rfl dX1_degree_16 ?_
        refine px_ge (tgt := 46) hx hb dX1_degree_19 (by decide) (by omega) (by omega) (fun h19 => ?_) (fun h19 => ?_)
        · refine lv_iload_n hx hb dX1_degree_46 rfl (lv_at hl 0 rfl) ?_
          obtain rfl : i = n := by omega
          exact px_ri hx hb hr hlk (by rw [pm_rd_t (by omega) hj]) dX1_degree_47
        · refine lv_aload_n hx hb dX1_degree_22 rfl (lv_at hl 3 rfl) ?_
          refine va_get (D := D) (ci := 1) (v := .ref (bd 1)) (C := RX1) (T := TX1) (N := 9) hx hb hts hin hown hK hP 0 rfl rfl 0 (by decide) f10 (fun _ h9 => h9) rfl dX1_degree_23 ?_
          refine lv_sipush (v := nI 200) hx hb dX1_degree_26 (by decide +kernel) ?_
          refine lv_iload_n hx hb dX1_degree_29 rfl (lv_at hl 2 rfl) ?_
          refine px_mul hx hb dX1_degree_30 ?_
          refine lv_iload_n hx hb dX1_degree_31 rfl (lv_at hl 1 rfl) ?_
          refine px_add hx hb dX1_degree_32 ?_
          refine px_zald (n := 40000) (i := ((200 * j) + i)) hx hb hK hP 1 2 rfl rfl (by omega) (by decide) dX1_degree_33 ?_
          refine px_top (y := px_b (J j i)) (hJ _ _ (by omega) (by omega)) ?_
          refine px_eqb (tgt := 40) hx hb dX1_degree_34 (by decide) (fun h34 => ?_) (fun h34 => ?_)
          · refine lv_iinc (v := nI (i + 1)) (lv' := [(3, .int (nI (i + 1))), (2, .int (nI (pm_cn (J j) i))), (1, .int (nI j)), (0, .ref (bd 0))]) hx hb dX1_degree_40 hl (k := 1) rfl (px_inc1 _) (by decide) rfl (fun ls hl => ?_)
            refine lv_goto (tgt := 14) hx hb dX1_degree_43 (by decide) ?_
            exact ih (i + 1) (by omega) (by omega) ls (by rw [pm_cn_0 (f := J j) h34]; exact lv_sub hl [1, 0, 2, 3] rfl)
          · refine lv_iinc (v := nI (pm_cn (J j) i + 1)) (lv' := [(2, .int (nI (pm_cn (J j) i + 1))), (3, .int (nI i)), (1, .int (nI j)), (0, .ref (bd 0))]) hx hb dX1_degree_37 hl (k := 0) rfl (px_inc1 _) (by decide) rfl (fun ls hl => ?_)
            refine lv_iinc (v := nI (i + 1)) (lv' := [(3, .int (nI (i + 1))), (2, .int (nI (pm_cn (J j) i + 1))), (1, .int (nI j)), (0, .ref (bd 0))]) hx hb dX1_degree_40 hl (k := 1) rfl (px_inc1 _) (by decide) rfl (fun ls hl => ?_)
            refine lv_goto (tgt := 14) hx hb dX1_degree_43 (by decide) ?_
            exact ih (i + 1) (by omega) (by omega) ls (by rw [pm_cn_1 (f := J j) h34]; exact lv_sub hl [1, 0, 2, 3] rfl)
    refine lv_iconst (v := nI 0) hx hb dX1_degree_10 (by decide +kernel) ?_
    refine lv_istore_n (lv' := [(2, .int (nI 0)), (0, .ref (bd 0)), (1, .int (nI j))]) hx hb dX1_degree_11 rfl hl (by decide) rfl (fun ls hl => ?_)
    refine lv_iconst (v := nI 0) hx hb dX1_degree_12 (by decide +kernel) ?_
    refine lv_istore_n (lv' := [(3, .int (nI 0)), (2, .int (nI 0)), (0, .ref (bd 0)), (1, .int (nI j))]) hx hb dX1_degree_13 rfl hl (by decide) rfl (fun ls hl => ?_)
    exact loop (n + 1) 0 (by omega) (by omega) ls (lv_sub hl [1, 0, 3, 2] rfl)
  · refine lv_iconst (v := -1) hx hb dX1_degree_8 (by decide +kernel) ?_
    exact px_ri hx hb hr hlk (by rw [pm_rd_n h5]) dX1_degree_9
end
section
theorem px_B1 {a q : Nat} {x : va_E} : px_B [(a, x)] q ↔ q = a := by
  constructor
  · rintro ⟨k, e, h⟩
    cases k with
    | zero => simp at h; exact h.1.symm
    | succ k => simp at h
  · rintro rfl; exact ⟨0, x, rfl⟩
theorem px_P1 {D : va_G} {cl : List vw_C} {a : Nat} {x : va_E} {H : Heap} (h : va_at D cl (a, x) H) : va_P D cl [(a, x)] H := fun k q hq => by
  cases k with
  | zero => simp at hq; subst hq; exact h
  | succ k => simp at hq
theorem px_D1 {a : Nat} {x : va_E} : va_D (px_B [(a, x)]) [(a, x)] := by
  refine ⟨fun i j p q hi hj _ => ?_, fun k q h => ⟨k, q.2, h⟩⟩
  cases i with
  | succ i => simp at hi
  | zero => cases j with
    | succ j => simp at hj
    | zero => rfl
section PW
variable {p : Program} {l : Launch} {e : Env} {R : Room} {s : State} {m : MethodId} {args : Array Value} {below : List Frame} {meth : Method} {c : Code} {H : Heap} {locs : List Loc} {cells slots : Nat} {Q : State → Prop}
variable {cc bytes : ByteArray} {pc nL maxL n index : Nat} {ls : Array Slot} {rest st0 As : List Value} {D : va_G} {A : Nat → Prop} {a : Nat} {tys : List (ClassId × FieldType)} {ws ws' : va_W} {H0 : Heap} {Ts wm : List Cond} {own : String} {y : MethodName} {rm : Room} {ret : Option FieldType} {e0 e1 : va_E}
theorem px_ws (S : CallFix p m c cc nL s args Ts own) (hP : va_P D vwCl ws H) (hK : va_K D vwCl tys s) (hD : va_D A ws) (hS : va_S A H0 H locs) (k : Nat) (hk : ws[k]? = some (a, e0)) (hM : WrV l y wm rm D tys As [(a, e0)] (fun _ : Unit => True) (fun _ => [(a, e1)])) (cw : CallB R s args own index y bytes maxL ret wm rm 0 0 n ∧ (Cond.static y).before args s = true) (hn : As.length = n) (hl : ls.size = nL) (hst : st0 = As.reverse ++ rest) (hW : (rest.map fun v => v.category).sum ≤ 8) (hdg : decode cc pc = .ok (.invokestatic index, 3)) (hf : cells ≤ R.cells ∧ slots ≤ R.slots) (hw : ws.set k (a, e1) = ws')
    (kk : ∀ (H : Heap) (locs : List Loc), va_P D vwCl ws' H → va_D A ws' → va_S A H0 H locs → W p l e R s m args below meth c H locs cells slots Q (F0 m (pc + 3) ls rest)) : W p l e R s m args below meth c H locs cells slots Q (F0 m pc ls st0) := by
  subst hw
  have hPa : va_P D vwCl [(a, e0)] H := px_P1 (hP k _ hk)
  have hAa : A a := hD.2 k _ hk
  refine va_callv (va_runS (As := As) (rest := rest) (g := F0 m pc ls st0) S hM cw ⟨fun a U g mk z => ⟨z.1, z.2.1, va_K.moved (u := U) (U := U.calling g mk a) (Vm.Alike.refl U.vm) z.2.2.1, z.2.2.2⟩, fun U hU hW => ⟨rfl, by rw [hU]; exact hPa, va_K.moved hW.alike hK, px_D1⟩⟩ rfl hn hl hst (lv_room hW) hdg hf) hS (fun q _ h => by rw [px_B1] at h; rw [h]; exact hAa) (fun q h => by rw [px_B1] at h; rw [h]; exact hAa) ?_
  intro u t H1 locs1 ht hvm hw hB hz hk1 hS1
  refine kk H1 locs1 (fun j q hq => ?_) (hD.set hk) hS1
  by_cases hj : j = k
  · subst hj
    rw [List.getElem?_set_self ((List.getElem?_eq_some_iff.mp hk).1)] at hq
    obtain rfl := Option.some.inj hq
    have hB : va_P D vwCl [(a, e1)] t.heap := hB
    rw [ht] at hB
    exact hB 0 _ rfl
  · rw [List.getElem?_set_ne (Ne.symm hj)] at hq
    have h1 := hP j q hq
    exact h1.kept (hk1 q.1 h1.lt (fun z => by rw [px_B1] at z; exact hj (hD.1 j k q _ hq hk z)))
end PW
set_option maxHeartbeats 4000000 in
set_option maxRecDepth 100000 in
theorem tJ7_fillI {l : Launch} {D : va_G} {cI cJ cZ : ClassId} {a n : Nat} {f : Nat → Int32} {v : Int32} (hn : n < 2 ^ 31) : WrV l yJ7_fill_53178 wsJ7_fill_53178 (rmd 0) D (tyq cI cJ cZ) [.ref a, .int v] [(a, .inl (cI, n, .inl f))] (fun _ : Unit => True) (fun _ => [(a, .inl (cI, n, .inl (fun _ => v)))]) := by
  refine px_met (cc := cJ7_fill_53178) (maxL := 4) (ret := none) (lv := [(0, .ref a), (1, .int v)]) (by decide +kernel) rfl (Nat.le_of_ble_eq_true rfl) rfl ?_
  intro p e s m below meth c ls S hr hlk hnm hv hl
  obtain ⟨hx, hb, hml, hown, hts⟩ := id S
  obtain ⟨hP, hK, hD⟩ := hv
  have hS : va_S (px_B [(a, .inl (cI, n, .inl f))]) s.heap s.heap [] := va_S.rf
  generalize hA : px_B [(a, (.inl (cI, n, .inl f) : va_E))] = A at hD hS ⊢
  have loop : ∀ (k i : Nat) (g : Nat → Int32) (H : Heap) (locs : List Loc), n + 1 ≤ i + k → i ≤ n → (∀ j, j < i → g j = v) → va_P D vwCl [(a, .inl (cI, n, .inl g))] H → va_D A [(a, .inl (cI, n, .inl g))] → va_S A s.heap H locs → ∀ ls : Array Slot, lv_has ls 4 [(3, .int (nI n)), (2, .int (nI i)), (0, .ref a), (1, .int v)] → W p l e (rmd 0) s m ([.ref a, .int v] : List Value).toArray below meth c H locs 0 0 (MQ below (va_Qv (fun _ : Unit => True) (fun u t => va_P D vwCl ((fun _ => [(a, .inl (cI, n, .inl (fun _ => v)))]) u) t.heap) A) ([.ref a, .int v] : List Value).toArray s 0 0 A) (F0 m 5 ls []) := by
    intro k
    induction k with
    | zero => intro i g H locs h1 h2; exact absurd h1 (by omega)
    | succ k ih =>
      intro i g H locs h1 h2 hg hP hD hS ls hl
      refine lv_iload_n hx hb dJ7_fill_53178_5 rfl (lv_at hl 1 rfl) ?_
      refine lv_iload_n hx hb dJ7_fill_53178_6 rfl (lv_at hl 0 rfl) ?_
      refine px_ge (tgt := 20) hx hb dJ7_fill_53178_7 (by decide) (by omega) (by omega) (fun h7 => ?_) (fun h7 => ?_)
      · refine px_ev (wf := fun _ => [(a, .inl (cI, n, .inl (fun _ => v)))]) hx hb hr hlk hS () trivial ?_ dJ7_fill_53178_20
        refine px_P1 ?_
        have h8 : H[a]? = some (vp_cell cI (n, .inl g)) := hP 0 _ rfl
        show H[a]? = some (vp_cell cI (n, .inl (fun _ => v)))
        rw [h8, px_cell (fun j hj => hg j (by omega))]
      · refine lv_aload_n hx hb dJ7_fill_53178_10 rfl (lv_at hl 2 rfl) ?_
        refine lv_iload_n hx hb dJ7_fill_53178_11 rfl (lv_at hl 1 rfl) ?_
        refine lv_iload_n hx hb dJ7_fill_53178_12 rfl (lv_at hl 3 rfl) ?_
        refine px_iast (n := n) (i := i) (ws' := [(a, .inl (cI, n, .inl (upd g i v)))]) hx hb hK hP hD hS 0 0 rfl rfl h7 hn rfl dJ7_fill_53178_13 (fun H locs hP hD hS => ?_)
        refine lv_iinc (v := nI (i + 1)) (lv' := [(2, .int (nI (i + 1))), (3, .int (nI n)), (0, .ref a), (1, .int v)]) hx hb dJ7_fill_53178_14 hl (k := 1) rfl (px_inc1 _) (by decide) rfl (fun ls hl => ?_)
        refine lv_goto (tgt := 5) hx hb dJ7_fill_53178_17 (by decide) ?_
        exact ih (i + 1) _ H locs (by omega) (by omega) (fun j hj => by
          by_cases q : j = i
          · rw [q, pk_us]
          · rw [pk_un q]; exact hg j (by omega)) hP hD hS ls (lv_sub hl [1, 0, 2, 3] rfl)
  refine lv_iconst (v := nI 0) hx hb dJ7_fill_53178_0 (by decide +kernel) ?_
  refine lv_istore_n (lv' := [(2, .int (nI 0)), (0, .ref a), (1, .int v)]) hx hb dJ7_fill_53178_1 rfl hl (by decide) rfl (fun ls hl => ?_)
  refine lv_aload_n hx hb dJ7_fill_53178_2 rfl (lv_at hl 1 rfl) ?_
  refine va_alen (v := nI n) hx hb hK hP 0 0 rfl (ty := .int) rfl rfl dJ7_fill_53178_3 ?_
  refine lv_istore_n (lv' := [(3, .int (nI n)), (2, .int (nI 0)), (0, .ref a), (1, .int v)]) hx hb dJ7_fill_53178_4 rfl hl (by decide) rfl (fun ls hl => ?_)
  exact loop (n + 1) 0 f s.heap [] (by omega) (by omega) (fun j h => absurd h (by omega)) hP hD hS ls hl
set_option maxHeartbeats 4000000 in
set_option maxRecDepth 100000 in
theorem tJ7_fillL {l : Launch} {D : va_G} {cI cJ cZ : ClassId} {a n : Nat} {f : Nat → Int64} {v : Int64} (hn : n < 2 ^ 31) : WrV l yJ7_fill_d0a16 wsJ7_fill_d0a16 (rmd 0) D (tyq cI cJ cZ) [.ref a, .long v] [(a, .inl (cJ, n, .inr (.inl f)))] (fun _ : Unit => True) (fun _ => [(a, .inl (cJ, n, .inr (.inl (fun _ => v))))]) := by
  refine px_met (cc := cJ7_fill_d0a16) (maxL := 5) (ret := none) (lv := [(0, .ref a), (1, .long v)]) (by decide +kernel) rfl (Nat.le_of_ble_eq_true rfl) rfl ?_
  intro p e s m below meth c ls S hr hlk hnm hv hl
  obtain ⟨hx, hb, hml, hown, hts⟩ := id S
  obtain ⟨hP, hK, hD⟩ := hv
  have hS : va_S (px_B [(a, .inl (cJ, n, .inr (.inl f)))]) s.heap s.heap [] := va_S.rf
  generalize hA : px_B [(a, (.inl (cJ, n, .inr (.inl f)) : va_E))] = A at hD hS ⊢
  have loop : ∀ (k i : Nat) (g : Nat → Int64) (H : Heap) (locs : List Loc), n + 1 ≤ i + k → i ≤ n → (∀ j, j < i → g j = v) → va_P D vwCl [(a, .inl (cJ, n, .inr (.inl g)))] H → va_D A [(a, .inl (cJ, n, .inr (.inl g)))] → va_S A s.heap H locs → ∀ ls : Array Slot, lv_has ls 5 [(4, .int (nI n)), (3, .int (nI i)), (0, .ref a), (1, .long v)] → W p l e (rmd 0) s m ([.ref a, .long v] : List Value).toArray below meth c H locs 0 0 (MQ below (va_Qv (fun _ : Unit => True) (fun u t => va_P D vwCl ((fun _ => [(a, .inl (cJ, n, .inr (.inl (fun _ => v))))]) u) t.heap) A) ([.ref a, .long v] : List Value).toArray s 0 0 A) (F0 m 6 ls []) := by
    intro k
    induction k with
    | zero => intro i g H locs h1 h2; exact absurd h1 (by omega)
    | succ k ih =>
      intro i g H locs h1 h2 hg hP hD hS ls hl
      refine lv_iload_n hx hb dJ7_fill_d0a16_6 rfl (lv_at hl 1 rfl) ?_
      refine lv_iload hx hb dJ7_fill_d0a16_7 (lv_at hl 0 rfl) ?_
      refine px_ge (tgt := 22) hx hb dJ7_fill_d0a16_9 (by decide) (by omega) (by omega) (fun h7 => ?_) (fun h7 => ?_)
      · refine px_ev (wf := fun _ => [(a, .inl (cJ, n, .inr (.inl (fun _ => v))))]) hx hb hr hlk hS () trivial ?_ dJ7_fill_d0a16_22
        refine px_P1 ?_
        have h8 : H[a]? = some (vp_cell cJ (n, .inr (.inl g))) := hP 0 _ rfl
        show H[a]? = some (vp_cell cJ (n, .inr (.inl (fun _ => v))))
        rw [h8, px_cellL (fun j hj => hg j (by omega))]
      · refine lv_aload_n hx hb dJ7_fill_d0a16_12 rfl (lv_at hl 2 rfl) ?_
        refine lv_iload_n hx hb dJ7_fill_d0a16_13 rfl (lv_at hl 1 rfl) ?_
        refine lv_lload_n hx hb dJ7_fill_d0a16_14 rfl (lv_at hl 3 rfl) ?_
        refine px_last (n := n) (i := i) (ws' := [(a, .inl (cJ, n, .inr (.inl (vp_updL g i v))))]) hx hb hK hP hD hS 0 1 rfl rfl h7 hn rfl dJ7_fill_d0a16_15 (fun H locs hP hD hS => ?_)
        refine lv_iinc (v := nI (i + 1)) (lv' := [(3, .int (nI (i + 1))), (4, .int (nI n)), (0, .ref a), (1, .long v)]) hx hb dJ7_fill_d0a16_16 hl (k := 1) rfl (px_inc1 _) (by decide) rfl (fun ls hl => ?_)
        refine lv_goto (tgt := 6) hx hb dJ7_fill_d0a16_19 (by decide) ?_
        exact ih (i + 1) _ H locs (by omega) (by omega) (fun j hj => by
          by_cases q : j = i
          · rw [q, pk_uLs]
          · rw [pk_uLn q]; exact hg j (by omega)) hP hD hS ls (lv_sub hl [1, 0, 2, 3] rfl)
  refine lv_iconst (v := nI 0) hx hb dJ7_fill_d0a16_0 (by decide +kernel) ?_
  refine lv_istore_n (lv' := [(3, .int (nI 0)), (0, .ref a), (1, .long v)]) hx hb dJ7_fill_d0a16_1 rfl hl (by decide) rfl (fun ls hl => ?_)
  refine lv_aload_n hx hb dJ7_fill_d0a16_2 rfl (lv_at hl 1 rfl) ?_
  refine va_alen (v := nI n) hx hb hK hP 0 1 rfl (ty := .long) rfl rfl dJ7_fill_d0a16_3 ?_
  refine lv_istore (lv' := [(4, .int (nI n)), (3, .int (nI 0)), (0, .ref a), (1, .long v)]) hx hb dJ7_fill_d0a16_4 hl (by decide) rfl (fun ls hl => ?_)
  exact loop (n + 1) 0 f s.heap [] (by omega) (by omega) (fun j h => absurd h (by omega)) hP hD hS ls hl
end
section
def pm_bg (a b : Int32) : Bool := decide (1 ≤ a.toInt ∧ a.toInt ≤ 200 ∧ 1 ≤ b.toInt ∧ b.toInt ≤ 30)
theorem pm_bg_t {a b : Int32} (h1 : ¬ a < nI 1) (h2 : ¬ nI 200 < a) (h3 : ¬ b < nI 1) (h4 : b ≤ nI 30) : pm_bg a b = true := by
  have h1 : ¬ a.toInt < (nI 1).toInt := fun q => h1 (Int32.lt_iff_toInt_lt.mpr q)
  have h2 : ¬ (nI 200).toInt < a.toInt := fun q => h2 (Int32.lt_iff_toInt_lt.mpr q)
  have h3 : ¬ b.toInt < (nI 1).toInt := fun q => h3 (Int32.lt_iff_toInt_lt.mpr q)
  have h4 : b.toInt ≤ (nI 30).toInt := Int32.le_iff_toInt_le.mp h4
  rw [nI_toInt (by decide)] at h1 h2 h3 h4
  simp [pm_bg]; omega
theorem pm_bg_of {a b : Int32} (h : pm_bg a b = true) : ∃ i j : Nat, a = nI i ∧ b = nI j ∧ 1 ≤ i ∧ i ≤ 200 ∧ 1 ≤ j ∧ j ≤ 30 := by
  simp [pm_bg] at h
  obtain ⟨i, h1, rfl⟩ := vp_in_of (x := a) (n := 201) (vp_in_iff.mpr (by omega)) (by decide)
  obtain ⟨j, h2, rfl⟩ := vp_in_of (x := b) (n := 31) (vp_in_iff.mpr (by omega)) (by decide)
  rw [nI_toInt (by omega), nI_toInt (by omega)] at h
  exact ⟨i, j, rfl, rfl, by omega, by omega, by omega, by omega⟩
def pm_jn (n : Nat) (J : Nat → Nat → Bool) (a b : Int32) : Bool := pm_pt n a && pm_pt n b && !decide (a = b) && !J a.toNatClampNeg b.toNatClampNeg
def pm_co (n : Nat) (a c : Int32) : Bool := pm_pt n a && decide (0 ≤ c.toInt ∧ c.toInt ≤ 1000000)
theorem pm_co_t {n : Nat} {a c : Int32} (h : pm_pt n a = true) (h1 : ¬ c < 0) (h2 : c ≤ 1000000) : pm_co n a c = true := by
  have h1 : ¬ c.toInt < (0 : Int32).toInt := fun q => h1 (Int32.lt_iff_toInt_lt.mpr q)
  have h2 : c.toInt ≤ (1000000 : Int32).toInt := Int32.le_iff_toInt_le.mp h2
  rw [show (0 : Int32).toInt = 0 from by decide +kernel] at h1
  rw [show (1000000 : Int32).toInt = 1000000 from by decide +kernel] at h2
  simp [pm_co, h]; omega
theorem pm_co_of {n : Nat} {a c : Int32} (hn : n < 2 ^ 31) (h : pm_co n a c = true) : ∃ i j : Nat, a = nI i ∧ c = nI j ∧ i < n ∧ j ≤ 1000000 := by
  simp [pm_co] at h
  obtain ⟨i, h1, rfl⟩ := pm_pt_of hn h.1
  obtain ⟨j, h2, rfl⟩ := vp_in_of (x := c) (n := 1000001) (vp_in_iff.mpr (by omega)) (by decide)
  exact ⟨i, j, rfl, rfl, h1, by omega⟩
theorem w0_same {cI cJ cZ : ClassId} {ad : Nat → Nat} {pt co gv pt' co' gv' : Int32} {E E' : Nat → Int64} {G C Wi O IO NI CF G' C' Wi' O' IO' NI' CF' : Nat → Int32} : (w0 cI cJ cZ ad pt co gv E G C Wi O IO NI CF).map (·.1) = (w0 cI cJ cZ ad pt' co' gv' E' G' C' Wi' O' IO' NI' CF').map (·.1) := rfl
theorem w1_same {cI cZ : ClassId} {bd : Nat → Nat} {n k gv n' k' gv' : Int32} {PA C Wi CO RW IN PA' C' Wi' CO' RW' IN' : Nat → Int32} : (w1 cI cZ bd n k gv PA C Wi CO RW IN).map (·.1) = (w1 cI cZ bd n' k' gv' PA' C' Wi' CO' RW' IN').map (·.1) := rfl
theorem pm_1m : nI 1000000 = 1000000 := rfl
set_option maxHeartbeats 4000000 in
set_option maxRecDepth 100000 in
theorem tX0_startGraph {l : Launch} {D : va_G} {cI cJ cZ : ClassId} {ad : Nat → Nat} {pt co gv : Int32} {E : Nat → Int64} {G C Wi O IO NI CF : Nat → Int32} (x y : Int32) : WrV l yX0_startGraph wsX0_startGraph (rmd 1) D (tyq cI cJ cZ) [.ref (ad 0), .int x, .int y] (w0 cI cJ cZ ad pt co gv E G C Wi O IO NI CF) (S := Unit) (fun _ => True) (fun _ => w0 cI cJ cZ ad x y (px_b false) (fun _ => 0) (fun _ => nI 0) (fun _ => nI 0) (fun _ => -1) O IO NI CF) := by
  refine px_met (cc := cX0_startGraph) (maxL := 3) (ret := none) (lv := [(0, .ref (ad 0)), (1, .int x), (2, .int y)]) (by decide +kernel) rfl (Nat.le_of_ble_eq_true rfl) rfl ?_
  intro p e s m below meth c ls S hr hlk hnm hv hl
  obtain ⟨hx, hb, hml, hown, hts⟩ := id S
  obtain ⟨hP, hK, hD⟩ := hv
  have hin : ∀ w ∈ wsX00, w ∈ wsX0_startGraph := fun w h => List.mem_cons_of_mem _ (List.mem_append_right _ h)
  have f66 := hts (.fieldLink RX0 66 "PointColours" "points" "I") (by decide +kernel)
  have f70 := hts (.fieldLink RX0 70 "PointColours" "colours" "I") (by decide +kernel)
  have f51 := hts (.fieldLink RX0 51 "PointColours" "given" "Z") (by decide +kernel)
  have f9 := hts (.fieldLink RX0 9 "PointColours" "edges" "[J") (by decide +kernel)
  have f13 := hts (.fieldLink RX0 13 "PointColours" "degrees" "[I") (by decide +kernel)
  have f17 := hts (.fieldLink RX0 17 "PointColours" "costs" "[I") (by decide +kernel)
  have f20 := hts (.fieldLink RX0 20 "PointColours" "wishes" "[I") (by decide +kernel)
  have hS : va_S (px_B (w0 cI cJ cZ ad pt co gv E G C Wi O IO NI CF)) s.heap s.heap [] := va_S.rf
  generalize hA : px_B (w0 cI cJ cZ ad pt co gv E G C Wi O IO NI CF) = A at hD hS ⊢
  refine lv_aload_n hx hb dX0_startGraph_0 rfl (lv_at hl 0 rfl) ?_
  refine lv_iload_n hx hb dX0_startGraph_1 rfl (lv_at hl 1 rfl) ?_
  refine px_put (ty := .int) (ws' := w0 cI cJ cZ ad x co gv E G C Wi O IO NI CF) hx hb hts hin tyX0 tyX0_ok nmX0 hown hK hP hD hS 0 rfl rfl 0 (by decide) f66 (fun _ h9 => h9) rfl (by decide +kernel) rfl rfl (Nat.le_of_ble_eq_true rfl) rfl dX0_startGraph_2 (fun H locs hP hD hS => ?_)
  refine lv_aload_n hx hb dX0_startGraph_5 rfl (lv_at hl 0 rfl) ?_
  refine lv_iload_n hx hb dX0_startGraph_6 rfl (lv_at hl 2 rfl) ?_
  refine px_put (ty := .int) (ws' := w0 cI cJ cZ ad x y gv E G C Wi O IO NI CF) hx hb hts hin tyX0 tyX0_ok nmX0 hown hK hP hD hS 0 rfl rfl 1 (by decide) f70 (fun _ h9 => h9) rfl (by decide +kernel) rfl rfl (Nat.le_of_ble_eq_true rfl) rfl dX0_startGraph_7 (fun H locs hP hD hS => ?_)
  refine lv_aload_n hx hb dX0_startGraph_10 rfl (lv_at hl 0 rfl) ?_
  refine lv_iconst (v := px_b false) hx hb dX0_startGraph_11 (by decide +kernel) ?_
  refine px_put (ty := .boolean) (ws' := w0 cI cJ cZ ad x y (px_b false) E G C Wi O IO NI CF) hx hb hts hin tyX0 tyX0_ok nmX0 hown hK hP hD hS 0 rfl rfl 2 (by decide) f51 (fun _ h9 => h9) rfl (by decide +kernel) (px_b_nar _) (px_b_fit _) (Nat.le_of_ble_eq_true rfl) rfl dX0_startGraph_12 (fun H locs hP hD hS => ?_)
  refine lv_aload_n hx hb dX0_startGraph_15 rfl (lv_at hl 0 rfl) ?_
  refine va_get (D := D) (ci := 0) (v := .ref (ad 1)) (C := RX0) (T := TX0) (N := 11) hx hb hts hin hown hK hP 0 rfl rfl 3 (by decide) f9 (fun _ h9 => h9) rfl dX0_startGraph_16 ?_
  refine lv_lconst (v := 0) hx hb dX0_startGraph_19 (by decide +kernel) ?_
  refine px_ws (ws' := w0 cI cJ cZ ad x y (px_b false) (fun _ => 0) G C Wi O IO NI CF) (rest := []) S hP hK hD hS 1 rfl (tJ7_fillL (by decide)) (va_cwS 2 hts gX0_startGraph_J7_fill_d0a16 rfl rfl rfl (by decide +kernel) ⟨by decide, by decide⟩) rfl hl.1 rfl (Nat.le_of_ble_eq_true rfl) dX0_startGraph_20 ⟨Nat.zero_le _, Nat.zero_le _⟩ rfl (fun H locs hP hD hS => ?_)
  refine lv_aload_n hx hb dX0_startGraph_23 rfl (lv_at hl 0 rfl) ?_
  refine va_get (D := D) (ci := 0) (v := .ref (ad 2)) (C := RX0) (T := TX0) (N := 11) hx hb hts hin hown hK hP 0 rfl rfl 4 (by decide) f13 (fun _ h9 => h9) rfl dX0_startGraph_24 ?_
  refine lv_iconst (v := nI 0) hx hb dX0_startGraph_27 (by decide +kernel) ?_
  refine px_ws (ws' := w0 cI cJ cZ ad x y (px_b false) (fun _ => 0) (fun _ => nI 0) C Wi O IO NI CF) (rest := []) S hP hK hD hS 2 rfl (tJ7_fillI (by decide)) (va_cwS 2 hts gX0_startGraph_J7_fill_53178 rfl rfl rfl (by decide +kernel) ⟨by decide, by decide⟩) rfl hl.1 rfl (Nat.le_of_ble_eq_true rfl) dX0_startGraph_28 ⟨Nat.zero_le _, Nat.zero_le _⟩ rfl (fun H locs hP hD hS => ?_)
  refine lv_aload_n hx hb dX0_startGraph_31 rfl (lv_at hl 0 rfl) ?_
  refine va_get (D := D) (ci := 0) (v := .ref (ad 3)) (C := RX0) (T := TX0) (N := 11) hx hb hts hin hown hK hP 0 rfl rfl 5 (by decide) f17 (fun _ h9 => h9) rfl dX0_startGraph_32 ?_
  refine lv_iconst (v := nI 0) hx hb dX0_startGraph_35 (by decide +kernel) ?_
  refine px_ws (ws' := w0 cI cJ cZ ad x y (px_b false) (fun _ => 0) (fun _ => nI 0) (fun _ => nI 0) Wi O IO NI CF) (rest := []) S hP hK hD hS 3 rfl (tJ7_fillI (by decide)) (va_cwS 2 hts gX0_startGraph_J7_fill_53178 rfl rfl rfl (by decide +kernel) ⟨by decide, by decide⟩) rfl hl.1 rfl (Nat.le_of_ble_eq_true rfl) dX0_startGraph_36 ⟨Nat.zero_le _, Nat.zero_le _⟩ rfl (fun H locs hP hD hS => ?_)
  refine lv_aload_n hx hb dX0_startGraph_39 rfl (lv_at hl 0 rfl) ?_
  refine va_get (D := D) (ci := 0) (v := .ref (ad 4)) (C := RX0) (T := TX0) (N := 11) hx hb hts hin hown hK hP 0 rfl rfl 6 (by decide) f20 (fun _ h9 => h9) rfl dX0_startGraph_40 ?_
  refine lv_iconst (v := -1) hx hb dX0_startGraph_43 (by decide +kernel) ?_
  refine px_ws (ws' := w0 cI cJ cZ ad x y (px_b false) (fun _ => 0) (fun _ => nI 0) (fun _ => nI 0) (fun _ => -1) O IO NI CF) (rest := []) S hP hK hD hS 4 rfl (tJ7_fillI (by decide)) (va_cwS 2 hts gX0_startGraph_J7_fill_53178 rfl rfl rfl (by decide +kernel) ⟨by decide, by decide⟩) rfl hl.1 rfl (Nat.le_of_ble_eq_true rfl) dX0_startGraph_44 ⟨Nat.zero_le _, Nat.zero_le _⟩ rfl (fun H locs hP hD hS => ?_)
  exact px_ev (wf := fun _ : Unit => w0 cI cJ cZ ad x y (px_b false) (fun _ => 0) (fun _ => nI 0) (fun _ => nI 0) (fun _ => -1) O IO NI CF) hx hb hr hlk hS () trivial hP dX0_startGraph_47
set_option maxHeartbeats 4000000 in
set_option maxRecDepth 100000 in
theorem tX0_begin_no {l : Launch} {D : va_G} {cI cJ cZ : ClassId} {ad : Nat → Nat} {pt co gv : Int32} {E : Nat → Int64} {G C Wi O IO NI CF : Nat → Int32} {x y : Int32} (hno : pm_bg x y = false) : RdI l yX0_begin wsX0_begin (rmd 2) D (tyq cI cJ cZ) [.ref (ad 0), .int x, .int y] (w0 cI cJ cZ ad pt co gv E G C Wi O IO NI CF) (px_b false) := by
  refine px_met (cc := cX0_begin) (maxL := 3) (ret := (some .boolean)) (lv := [(0, .ref (ad 0)), (1, .int x), (2, .int y)]) (by decide +kernel) rfl (Nat.le_of_ble_eq_true rfl) rfl ?_
  intro p e s m below meth c ls S hr hlk hnm hv hl
  obtain ⟨hx, hb, hml, hown, hts⟩ := id S
  obtain ⟨hP, hK⟩ := hv
  refine lv_iload_n hx hb dX0_begin_0 rfl (lv_at hl 1 rfl) ?_
  refine lv_iconst (v := nI 1) hx hb dX0_begin_1 (by decide +kernel) ?_
  refine lv_icmp_lt (tgt := 23) hx hb dX0_begin_2 (by decide) (fun h2 => ?_) (fun h2 => ?_)
  · refine lv_iconst (v := px_b false) hx hb dX0_begin_23 (by decide +kernel) ?_
    exact px_rz hx hb hr hlk rfl dX0_begin_24
  · refine lv_iload_n hx hb dX0_begin_5 rfl (lv_at hl 1 rfl) ?_
    refine lv_sipush (v := nI 200) hx hb dX0_begin_6 (by decide +kernel) ?_
    refine lv_icmp_gt (tgt := 23) hx hb dX0_begin_9 (by decide) (fun h9 => ?_) (fun h9 => ?_)
    · refine lv_iconst (v := px_b false) hx hb dX0_begin_23 (by decide +kernel) ?_
      exact px_rz hx hb hr hlk rfl dX0_begin_24
    · refine lv_iload_n hx hb dX0_begin_12 rfl (lv_at hl 2 rfl) ?_
      refine lv_iconst (v := nI 1) hx hb dX0_begin_13 (by decide +kernel) ?_
      refine lv_icmp_lt (tgt := 23) hx hb dX0_begin_14 (by decide) (fun h14 => ?_) (fun h14 => ?_)
      · refine lv_iconst (v := px_b false) hx hb dX0_begin_23 (by decide +kernel) ?_
        exact px_rz hx hb hr hlk rfl dX0_begin_24
      · refine lv_iload_n hx hb dX0_begin_17 rfl (lv_at hl 2 rfl) ?_
        refine lv_bipush (v := nI 30) hx hb dX0_begin_18 (by decide +kernel) ?_
        refine lv_icmp_le (tgt := 25) hx hb dX0_begin_20 (by decide) (fun h20 => ?_) (fun h20 => ?_)
        · rw [pm_bg_t h2 h9 h14 h20] at hno
          cases hno
        · refine lv_iconst (v := px_b false) hx hb dX0_begin_23 (by decide +kernel) ?_
          exact px_rz hx hb hr hlk rfl dX0_begin_24
set_option maxHeartbeats 4000000 in
set_option maxRecDepth 100000 in
theorem tX0_begin_ok {l : Launch} {D : va_G} {cI cJ cZ : ClassId} {ad : Nat → Nat} {pt co gv : Int32} {E : Nat → Int64} {G C Wi O IO NI CF : Nat → Int32} {i j : Nat} (g1 : 1 ≤ i) (g2 : i ≤ 200) (g3 : 1 ≤ j) (g4 : j ≤ 30) : WrI l yX0_begin wsX0_begin (rmd 2) D (tyq cI cJ cZ) [.ref (ad 0), .int (nI i), .int (nI j)] (w0 cI cJ cZ ad pt co gv E G C Wi O IO NI CF) (S := Unit) (fun r _ => r = px_b true) (fun _ => w0 cI cJ cZ ad (nI i) (nI j) (px_b false) (fun _ => 0) (fun _ => nI 0) (fun _ => nI 0) (fun _ => -1) O IO NI CF) := by
  refine px_met (cc := cX0_begin) (maxL := 3) (ret := (some .boolean)) (lv := [(0, .ref (ad 0)), (1, .int (nI i)), (2, .int (nI j))]) (by decide +kernel) rfl (Nat.le_of_ble_eq_true rfl) rfl ?_
  intro p e s m below meth c ls S hr hlk hnm hv hl
  obtain ⟨hx, hb, hml, hown, hts⟩ := id S
  obtain ⟨hP, hK, hD⟩ := hv
  have hS : va_S (px_B (w0 cI cJ cZ ad pt co gv E G C Wi O IO NI CF)) s.heap s.heap [] := va_S.rf
  generalize hA : px_B (w0 cI cJ cZ ad pt co gv E G C Wi O IO NI CF) = A at hD hS ⊢
  refine lv_iload_n hx hb dX0_begin_0 rfl (lv_at hl 1 rfl) ?_
  refine lv_iconst (v := nI 1) hx hb dX0_begin_1 (by decide +kernel) ?_
  refine px_lt (tgt := 23) hx hb dX0_begin_2 (by decide) (by omega) (by omega) (fun h2 => ?_) (fun h2 => ?_)
  · exact absurd h2 (by omega)
  refine lv_iload_n hx hb dX0_begin_5 rfl (lv_at hl 1 rfl) ?_
  refine lv_sipush (v := nI 200) hx hb dX0_begin_6 (by decide +kernel) ?_
  refine px_gt (tgt := 23) hx hb dX0_begin_9 (by decide) (by omega) (by omega) (fun h9 => ?_) (fun h9 => ?_)
  · exact absurd h9 (by omega)
  refine lv_iload_n hx hb dX0_begin_12 rfl (lv_at hl 2 rfl) ?_
  refine lv_iconst (v := nI 1) hx hb dX0_begin_13 (by decide +kernel) ?_
  refine px_lt (tgt := 23) hx hb dX0_begin_14 (by decide) (by omega) (by omega) (fun h14 => ?_) (fun h14 => ?_)
  · exact absurd h14 (by omega)
  refine lv_iload_n hx hb dX0_begin_17 rfl (lv_at hl 2 rfl) ?_
  refine lv_bipush (v := nI 30) hx hb dX0_begin_18 (by decide +kernel) ?_
  refine px_le (tgt := 25) hx hb dX0_begin_20 (by decide) (by omega) (by omega) (fun h20 => ?_) (fun h20 => ?_)
  rotate_left
  · exact absurd h20 (by omega)
  refine lv_aload_n hx hb dX0_begin_25 rfl (lv_at hl 0 rfl) ?_
  refine lv_iload_n hx hb dX0_begin_26 rfl (lv_at hl 1 rfl) ?_
  refine lv_iload_n hx hb dX0_begin_27 rfl (lv_at hl 2 rfl) ?_
  refine px_wv (ci := 0) (q := (RX0, TX0, 11)) (rest := []) S hP hK hD hS (tX0_startGraph (nI i) (nI j)) (fun _ => w0_same) (cwV 2 hts gX0_begin_X0_startGraph rfl rfl rfl (by decide +kernel) ⟨by decide, by decide⟩) rfl rfl rfl hl.1 rfl (Nat.le_of_ble_eq_true rfl) dX0_begin_28 ⟨Nat.zero_le _, Nat.zero_le _⟩ (fun _ H locs _ hP hD hS _ => ?_)
  have hP : va_P D vwCl (w0 cI cJ cZ ad (nI i) (nI j) (px_b false) (fun _ => 0) (fun _ => nI 0) (fun _ => nI 0) (fun _ => -1) O IO NI CF) H := hP
  have hD : va_D A (w0 cI cJ cZ ad (nI i) (nI j) (px_b false) (fun _ => 0) (fun _ => nI 0) (fun _ => nI 0) (fun _ => -1) O IO NI CF) := hD
  refine lv_iconst (v := px_b true) hx hb dX0_begin_31 (by decide +kernel) ?_
  exact px_ez (post := fun r (_ : Unit) => r = px_b true) (wf := fun _ : Unit => w0 cI cJ cZ ad (nI i) (nI j) (px_b false) (fun _ => 0) (fun _ => nI 0) (fun _ => nI 0) (fun _ => -1) O IO NI CF) hx hb hr hlk hS () rfl hP dX0_begin_32
set_option maxHeartbeats 4000000 in
set_option maxRecDepth 100000 in
theorem tX0_addNeighbour {l : Launch} {D : va_G} {cI cJ cZ : ClassId} {ad : Nat → Nat} {pt co gv : Int32} {E : Nat → Int64} {G C Wi O IO NI CF : Nat → Int32} (a b : Nat) (h1 : a < 200) (h2 : b < 200) : WrV l yX0_addNeighbour wsX0_addNeighbour (rmd 1) D (tyq cI cJ cZ) [.ref (ad 0), .int (nI a), .int (nI b)] (w0 cI cJ cZ ad pt co gv E G C Wi O IO NI CF) (S := Unit) (fun _ => True) (fun _ => w0 cI cJ cZ ad pt co gv (vp_updL E (a * 4 + b / 64) (E (a * 4 + b / 64) ||| pm_bit b)) (upd G a (G a + nI 1)) C Wi O IO NI CF) := by
  refine px_met (cc := cX0_addNeighbour) (maxL := 3) (ret := none) (lv := [(0, .ref (ad 0)), (1, .int (nI a)), (2, .int (nI b))]) (by decide +kernel) rfl (Nat.le_of_ble_eq_true rfl) rfl ?_
  intro p e s m below meth c ls S hr hlk hnm hv hl
  obtain ⟨hx, hb, hml, hown, hts⟩ := id S
  obtain ⟨hP, hK, hD⟩ := hv
  have hin : ∀ w ∈ wsX00, w ∈ wsX0_addNeighbour := fun w h => List.mem_cons_of_mem _ (List.mem_append_right _ h)
  have f9 := hts (.fieldLink RX0 9 "PointColours" "edges" "[J") (by decide +kernel)
  have f13 := hts (.fieldLink RX0 13 "PointColours" "degrees" "[I") (by decide +kernel)
  have hS : va_S (px_B (w0 cI cJ cZ ad pt co gv E G C Wi O IO NI CF)) s.heap s.heap [] := va_S.rf
  generalize hA : px_B (w0 cI cJ cZ ad pt co gv E G C Wi O IO NI CF) = A at hD hS ⊢
  refine lv_aload_n hx hb dX0_addNeighbour_0 rfl (lv_at hl 0 rfl) ?_
  refine va_get (D := D) (ci := 0) (v := .ref (ad 1)) (C := RX0) (T := TX0) (N := 11) hx hb hts hin hown hK hP 0 rfl rfl 3 (by decide) f9 (fun _ h9 => h9) rfl dX0_addNeighbour_1 ?_
  refine lv_iload_n hx hb dX0_addNeighbour_4 rfl (lv_at hl 1 rfl) ?_
  refine lv_iload_n hx hb dX0_addNeighbour_5 rfl (lv_at hl 2 rfl) ?_
  refine px_pu (v := nI (a * 4 + b / 64)) (rest := [.ref (ad 1)]) S (tX0_wordOf a b (by omega)) (va_cwS 2 hts gX0_addNeighbour_X0_wordOf rfl rfl rfl (by decide +kernel) ⟨by decide, by decide⟩) rfl hl.1 rfl (Nat.le_of_ble_eq_true rfl) dX0_addNeighbour_6 ⟨Nat.zero_le _, Nat.zero_le _⟩ ?_
  refine lv_dup2_11 hx hb dX0_addNeighbour_9 rfl rfl ?_
  refine px_lald (n := 800) (i := (a * 4 + b / 64)) hx hb hK hP 1 1 rfl rfl (by omega) (by decide) dX0_addNeighbour_10 ?_
  refine lv_iload_n hx hb dX0_addNeighbour_11 rfl (lv_at hl 2 rfl) ?_
  refine px_pl (v := pm_bit b) (rest := [.long (E (a * 4 + b / 64)), .int (nI (a * 4 + b / 64)), .ref (ad 1)]) S (tX0_bitOf b (by omega)) (va_cwS 1 hts gX0_addNeighbour_X0_bitOf rfl rfl rfl (by decide +kernel) ⟨by decide, by decide⟩) rfl hl.1 rfl (Nat.le_of_ble_eq_true rfl) dX0_addNeighbour_12 ⟨Nat.zero_le _, Nat.zero_le _⟩ ?_
  refine lv_lor hx hb dX0_addNeighbour_15 ?_
  refine px_last (n := 800) (i := (a * 4 + b / 64)) (ws' := w0 cI cJ cZ ad pt co gv (vp_updL E (a * 4 + b / 64) ((E (a * 4 + b / 64)) ||| (pm_bit b))) G C Wi O IO NI CF) hx hb hK hP hD hS 1 1 rfl rfl (by omega) (by decide) rfl dX0_addNeighbour_16 (fun H locs hP hD hS => ?_)
  refine lv_aload_n hx hb dX0_addNeighbour_17 rfl (lv_at hl 0 rfl) ?_
  refine va_get (D := D) (ci := 0) (v := .ref (ad 2)) (C := RX0) (T := TX0) (N := 11) hx hb hts hin hown hK hP 0 rfl rfl 4 (by decide) f13 (fun _ h9 => h9) rfl dX0_addNeighbour_18 ?_
  refine lv_iload_n hx hb dX0_addNeighbour_21 rfl (lv_at hl 1 rfl) ?_
  refine lv_dup2_11 hx hb dX0_addNeighbour_22 rfl rfl ?_
  refine px_iald (n := 200) (i := a) hx hb hK hP 2 0 rfl rfl (by omega) (by decide) dX0_addNeighbour_23 ?_
  refine lv_iconst (v := nI 1) hx hb dX0_addNeighbour_24 (by decide +kernel) ?_
  refine lv_iadd hx hb dX0_addNeighbour_25 ?_
  refine px_iast (n := 200) (i := a) (ws' := w0 cI cJ cZ ad pt co gv (vp_updL E (a * 4 + b / 64) ((E (a * 4 + b / 64)) ||| (pm_bit b))) (upd G a ((G a) + (nI 1))) C Wi O IO NI CF) hx hb hK hP hD hS 2 0 rfl rfl (by omega) (by decide) rfl dX0_addNeighbour_26 (fun H locs hP hD hS => ?_)
  exact px_ev (wf := fun _ : Unit => w0 cI cJ cZ ad pt co gv (vp_updL E (a * 4 + b / 64) (E (a * 4 + b / 64) ||| pm_bit b)) (upd G a (G a + nI 1)) C Wi O IO NI CF) hx hb hr hlk hS () trivial hP dX0_addNeighbour_27
set_option maxHeartbeats 4000000 in
set_option maxRecDepth 100000 in
theorem tX0_join_ok {l : Launch} {D : va_G} {cI cJ cZ : ClassId} {ad : Nat → Nat} {n k : Nat} {gv : Int32} {E : Nat → Int64} {G C Wi O IO NI CF : Nat → Int32} (J : Nat → Nat → Bool) (hJ : ∀ a b, a < 200 → b < 200 → pm_ed E a b = J a b) (hn : n ≤ 200) (a b : Nat) (ha : a < n) (hb2 : b < n) (hab : a ≠ b) (hnJ : J a b = false) : WrI l yX0_join wsX0_join (rmd 2) D (tyq cI cJ cZ) [.ref (ad 0), .int (nI a), .int (nI b)] (w0 cI cJ cZ ad (nI n) (nI k) gv E G C Wi O IO NI CF) (S := Unit) (fun r _ => r = px_b true) (fun _ => w0 cI cJ cZ ad (nI n) (nI k) (px_b false) (vp_updL (vp_updL E (a * 4 + b / 64) (E (a * 4 + b / 64) ||| pm_bit b)) (b * 4 + a / 64) ((vp_updL E (a * 4 + b / 64) (E (a * 4 + b / 64) ||| pm_bit b)) (b * 4 + a / 64) ||| pm_bit a)) (upd (upd G a (G a + nI 1)) b ((upd G a (G a + nI 1)) b + nI 1)) C Wi O IO NI CF) := by
  refine px_met (cc := cX0_join) (maxL := 3) (ret := (some .boolean)) (lv := [(0, .ref (ad 0)), (1, .int (nI a)), (2, .int (nI b))]) (by decide +kernel) rfl (Nat.le_of_ble_eq_true rfl) rfl ?_
  intro p e s m below meth c ls S hr hlk hnm hv hl
  obtain ⟨hx, hb, hml, hown, hts⟩ := id S
  obtain ⟨hP, hK, hD⟩ := hv
  have hin : ∀ w ∈ wsX00, w ∈ wsX0_join := fun w h => List.mem_cons_of_mem _ (List.mem_append_right _ h)
  have f51 := hts (.fieldLink RX0 51 "PointColours" "given" "Z") (by decide +kernel)
  have hS : va_S (px_B (w0 cI cJ cZ ad (nI n) (nI k) gv E G C Wi O IO NI CF)) s.heap s.heap [] := va_S.rf
  generalize hA : px_B (w0 cI cJ cZ ad (nI n) (nI k) gv E G C Wi O IO NI CF) = A at hD hS ⊢
  refine lv_aload_n hx hb dX0_join_0 rfl (lv_at hl 0 rfl) ?_
  refine lv_iload_n hx hb dX0_join_1 rfl (lv_at hl 1 rfl) ?_
  refine px_rd (ci := 0) (q := (RX0, TX0, 11)) (v := px_b (pm_pt n (nI a))) (rest := []) S hP hK (tX0_isPoint (by omega) (nI a)) (cwV 1 hts gX0_join_X0_isPoint rfl rfl rfl (by decide +kernel) ⟨by decide, by decide⟩) rfl rfl rfl hl.1 rfl (Nat.le_of_ble_eq_true rfl) dX0_join_2 ⟨Nat.zero_le _, Nat.zero_le _⟩ ?_
  refine px_eqb (tgt := 30) hx hb dX0_join_5 (by decide) (fun h5 => ?_) (fun h5 => ?_)
  · exact absurd h5 (by rw [pm_pt_nI (by omega)]; simp; omega)
  refine lv_aload_n hx hb dX0_join_8 rfl (lv_at hl 0 rfl) ?_
  refine lv_iload_n hx hb dX0_join_9 rfl (lv_at hl 2 rfl) ?_
  refine px_rd (ci := 0) (q := (RX0, TX0, 11)) (v := px_b (pm_pt n (nI b))) (rest := []) S hP hK (tX0_isPoint (by omega) (nI b)) (cwV 1 hts gX0_join_X0_isPoint rfl rfl rfl (by decide +kernel) ⟨by decide, by decide⟩) rfl rfl rfl hl.1 rfl (Nat.le_of_ble_eq_true rfl) dX0_join_10 ⟨Nat.zero_le _, Nat.zero_le _⟩ ?_
  refine px_eqb (tgt := 30) hx hb dX0_join_13 (by decide) (fun h13 => ?_) (fun h13 => ?_)
  · exact absurd h13 (by rw [pm_pt_nI (by omega)]; simp; omega)
  refine lv_iload_n hx hb dX0_join_16 rfl (lv_at hl 1 rfl) ?_
  refine lv_iload_n hx hb dX0_join_17 rfl (lv_at hl 2 rfl) ?_
  refine px_eq (tgt := 30) hx hb dX0_join_18 (by decide) (by omega) (by omega) (fun h18 => ?_) (fun h18 => ?_)
  · exact absurd h18 hab
  refine lv_aload_n hx hb dX0_join_21 rfl (lv_at hl 0 rfl) ?_
  refine lv_iload_n hx hb dX0_join_22 rfl (lv_at hl 1 rfl) ?_
  refine lv_iload_n hx hb dX0_join_23 rfl (lv_at hl 2 rfl) ?_
  refine px_rd (ci := 0) (q := (RX0, TX0, 11)) (v := px_b (J a b)) (rest := []) S hP hK (tX0_hasEdge J hJ a b (by omega) (by omega)) (cwV 2 hts gX0_join_X0_hasEdge rfl rfl rfl (by decide +kernel) ⟨by decide, by decide⟩) rfl rfl rfl hl.1 rfl (Nat.le_of_ble_eq_true rfl) dX0_join_24 ⟨Nat.zero_le _, Nat.zero_le _⟩ ?_
  refine px_eqb (tgt := 32) hx hb dX0_join_27 (by decide) (fun h27 => ?_) (fun h27 => ?_)
  rotate_left
  · exact absurd h27 (by rw [hnJ]; decide)
  refine lv_aload_n hx hb dX0_join_32 rfl (lv_at hl 0 rfl) ?_
  refine lv_iload_n hx hb dX0_join_33 rfl (lv_at hl 1 rfl) ?_
  refine lv_iload_n hx hb dX0_join_34 rfl (lv_at hl 2 rfl) ?_
  refine px_wv (ci := 0) (q := (RX0, TX0, 11)) (rest := []) S hP hK hD hS (tX0_addNeighbour a b (by omega) (by omega)) (fun _ => w0_same) (cwV 2 hts gX0_join_X0_addNeighbour rfl rfl rfl (by decide +kernel) ⟨by decide, by decide⟩) rfl rfl rfl hl.1 rfl (Nat.le_of_ble_eq_true rfl) dX0_join_35 ⟨Nat.zero_le _, Nat.zero_le _⟩ (fun _ H locs _ hP hD hS _ => ?_)
  have hP : va_P D vwCl (w0 cI cJ cZ ad (nI n) (nI k) gv (vp_updL E (a * 4 + b / 64) (E (a * 4 + b / 64) ||| pm_bit b)) (upd G a (G a + nI 1)) C Wi O IO NI CF) H := hP
  have hD : va_D A (w0 cI cJ cZ ad (nI n) (nI k) gv (vp_updL E (a * 4 + b / 64) (E (a * 4 + b / 64) ||| pm_bit b)) (upd G a (G a + nI 1)) C Wi O IO NI CF) := hD
  refine lv_aload_n hx hb dX0_join_38 rfl (lv_at hl 0 rfl) ?_
  refine lv_iload_n hx hb dX0_join_39 rfl (lv_at hl 2 rfl) ?_
  refine lv_iload_n hx hb dX0_join_40 rfl (lv_at hl 1 rfl) ?_
  refine px_wv (ci := 0) (q := (RX0, TX0, 11)) (rest := []) S hP hK hD hS (tX0_addNeighbour b a (by omega) (by omega)) (fun _ => w0_same) (cwV 2 hts gX0_join_X0_addNeighbour rfl rfl rfl (by decide +kernel) ⟨by decide, by decide⟩) rfl rfl rfl hl.1 rfl (Nat.le_of_ble_eq_true rfl) dX0_join_41 ⟨Nat.zero_le _, Nat.zero_le _⟩ (fun _ H locs _ hP hD hS _ => ?_)
  have hP : va_P D vwCl (w0 cI cJ cZ ad (nI n) (nI k) gv (vp_updL (vp_updL E (a * 4 + b / 64) (E (a * 4 + b / 64) ||| pm_bit b)) (b * 4 + a / 64) ((vp_updL E (a * 4 + b / 64) (E (a * 4 + b / 64) ||| pm_bit b)) (b * 4 + a / 64) ||| pm_bit a)) (upd (upd G a (G a + nI 1)) b ((upd G a (G a + nI 1)) b + nI 1)) C Wi O IO NI CF) H := hP
  have hD : va_D A (w0 cI cJ cZ ad (nI n) (nI k) gv (vp_updL (vp_updL E (a * 4 + b / 64) (E (a * 4 + b / 64) ||| pm_bit b)) (b * 4 + a / 64) ((vp_updL E (a * 4 + b / 64) (E (a * 4 + b / 64) ||| pm_bit b)) (b * 4 + a / 64) ||| pm_bit a)) (upd (upd G a (G a + nI 1)) b ((upd G a (G a + nI 1)) b + nI 1)) C Wi O IO NI CF) := hD
  refine lv_aload_n hx hb dX0_join_44 rfl (lv_at hl 0 rfl) ?_
  refine lv_iconst (v := px_b false) hx hb dX0_join_45 (by decide +kernel) ?_
  refine px_put (ty := .boolean) (ws' := w0 cI cJ cZ ad (nI n) (nI k) (px_b false) (vp_updL (vp_updL E (a * 4 + b / 64) (E (a * 4 + b / 64) ||| pm_bit b)) (b * 4 + a / 64) ((vp_updL E (a * 4 + b / 64) (E (a * 4 + b / 64) ||| pm_bit b)) (b * 4 + a / 64) ||| pm_bit a)) (upd (upd G a (G a + nI 1)) b ((upd G a (G a + nI 1)) b + nI 1)) C Wi O IO NI CF) hx hb hts hin tyX0 tyX0_ok nmX0 hown hK hP hD hS 0 rfl rfl 2 (by decide) f51 (fun _ h9 => h9) rfl (by decide +kernel) (px_b_nar _) (px_b_fit _) (Nat.le_of_ble_eq_true rfl) rfl dX0_join_46 (fun H locs hP hD hS => ?_)
  refine lv_iconst (v := px_b true) hx hb dX0_join_49 (by decide +kernel) ?_
  exact px_ez (post := fun r (_ : Unit) => r = px_b true) (wf := fun _ : Unit => w0 cI cJ cZ ad (nI n) (nI k) (px_b false) (vp_updL (vp_updL E (a * 4 + b / 64) (E (a * 4 + b / 64) ||| pm_bit b)) (b * 4 + a / 64) ((vp_updL E (a * 4 + b / 64) (E (a * 4 + b / 64) ||| pm_bit b)) (b * 4 + a / 64) ||| pm_bit a)) (upd (upd G a (G a + nI 1)) b ((upd G a (G a + nI 1)) b + nI 1)) C Wi O IO NI CF) hx hb hr hlk hS () rfl hP dX0_join_50
set_option maxHeartbeats 4000000 in
set_option maxRecDepth 100000 in
theorem tX0_join_no {l : Launch} {D : va_G} {cI cJ cZ : ClassId} {ad : Nat → Nat} {n k : Nat} {gv : Int32} {E : Nat → Int64} {G C Wi O IO NI CF : Nat → Int32} (J : Nat → Nat → Bool) (hJ : ∀ a b, a < 200 → b < 200 → pm_ed E a b = J a b) (hn : n ≤ 200) {a b : Int32} (hno : pm_jn n J a b = false) : RdI l yX0_join wsX0_join (rmd 2) D (tyq cI cJ cZ) [.ref (ad 0), .int a, .int b] (w0 cI cJ cZ ad (nI n) (nI k) gv E G C Wi O IO NI CF) (px_b false) := by
  refine px_met (cc := cX0_join) (maxL := 3) (ret := (some .boolean)) (lv := [(0, .ref (ad 0)), (1, .int a), (2, .int b)]) (by decide +kernel) rfl (Nat.le_of_ble_eq_true rfl) rfl ?_
  intro p e s m below meth c ls S hr hlk hnm hv hl
  obtain ⟨hx, hb, hml, hown, hts⟩ := id S
  obtain ⟨hP, hK⟩ := hv
  have hin : ∀ w ∈ wsX00, w ∈ wsX0_join := fun w h => List.mem_cons_of_mem _ (List.mem_append_right _ h)
  have f51 := hts (.fieldLink RX0 51 "PointColours" "given" "Z") (by decide +kernel)
  refine lv_aload_n hx hb dX0_join_0 rfl (lv_at hl 0 rfl) ?_
  refine lv_iload_n hx hb dX0_join_1 rfl (lv_at hl 1 rfl) ?_
  refine px_rd (ci := 0) (q := (RX0, TX0, 11)) (v := px_b (pm_pt n a)) (rest := []) S hP hK (tX0_isPoint (by omega) a) (cwV 1 hts gX0_join_X0_isPoint rfl rfl rfl (by decide +kernel) ⟨by decide, by decide⟩) rfl rfl rfl hl.1 rfl (Nat.le_of_ble_eq_true rfl) dX0_join_2 ⟨Nat.zero_le _, Nat.zero_le _⟩ ?_
  refine px_eqb (tgt := 30) hx hb dX0_join_5 (by decide) (fun h5 => ?_) (fun h5 => ?_)
  · refine lv_iconst (v := px_b false) hx hb dX0_join_30 (by decide +kernel) ?_
    exact px_rz hx hb hr hlk rfl dX0_join_31
  · refine lv_aload_n hx hb dX0_join_8 rfl (lv_at hl 0 rfl) ?_
    refine lv_iload_n hx hb dX0_join_9 rfl (lv_at hl 2 rfl) ?_
    refine px_rd (ci := 0) (q := (RX0, TX0, 11)) (v := px_b (pm_pt n b)) (rest := []) S hP hK (tX0_isPoint (by omega) b) (cwV 1 hts gX0_join_X0_isPoint rfl rfl rfl (by decide +kernel) ⟨by decide, by decide⟩) rfl rfl rfl hl.1 rfl (Nat.le_of_ble_eq_true rfl) dX0_join_10 ⟨Nat.zero_le _, Nat.zero_le _⟩ ?_
    refine px_eqb (tgt := 30) hx hb dX0_join_13 (by decide) (fun h13 => ?_) (fun h13 => ?_)
    · refine lv_iconst (v := px_b false) hx hb dX0_join_30 (by decide +kernel) ?_
      exact px_rz hx hb hr hlk rfl dX0_join_31
    · obtain ⟨i, hi, rfl⟩ := pm_pt_of (by omega) h5
      obtain ⟨j, hj, rfl⟩ := pm_pt_of (by omega) h13
      refine lv_iload_n hx hb dX0_join_16 rfl (lv_at hl 1 rfl) ?_
      refine lv_iload_n hx hb dX0_join_17 rfl (lv_at hl 2 rfl) ?_
      refine px_eq (tgt := 30) hx hb dX0_join_18 (by decide) (by omega) (by omega) (fun h18 => ?_) (fun h18 => ?_)
      · refine lv_iconst (v := px_b false) hx hb dX0_join_30 (by decide +kernel) ?_
        exact px_rz hx hb hr hlk rfl dX0_join_31
      · refine lv_aload_n hx hb dX0_join_21 rfl (lv_at hl 0 rfl) ?_
        refine lv_iload_n hx hb dX0_join_22 rfl (lv_at hl 1 rfl) ?_
        refine lv_iload_n hx hb dX0_join_23 rfl (lv_at hl 2 rfl) ?_
        refine px_rd (ci := 0) (q := (RX0, TX0, 11)) (v := px_b (J i j)) (rest := []) S hP hK (tX0_hasEdge J hJ i j (by omega) (by omega)) (cwV 2 hts gX0_join_X0_hasEdge rfl rfl rfl (by decide +kernel) ⟨by decide, by decide⟩) rfl rfl rfl hl.1 rfl (Nat.le_of_ble_eq_true rfl) dX0_join_24 ⟨Nat.zero_le _, Nat.zero_le _⟩ ?_
        refine px_eqb (tgt := 32) hx hb dX0_join_27 (by decide) (fun h27 => ?_) (fun h27 => ?_)
        · exact absurd hno (by simp [pm_jn, pm_pt_nI (show i < 2 ^ 31 by omega), pm_pt_nI (show j < 2 ^ 31 by omega), hi, hj, nI_eq (show i < 2 ^ 31 by omega) (show j < 2 ^ 31 by omega), h18, nI_clamp (show i < 2 ^ 31 by omega), nI_clamp (show j < 2 ^ 31 by omega), h27])
        · refine lv_iconst (v := px_b false) hx hb dX0_join_30 (by decide +kernel) ?_
          exact px_rz hx hb hr hlk rfl dX0_join_31
set_option maxHeartbeats 4000000 in
set_option maxRecDepth 100000 in
theorem tX0_cost_no {l : Launch} {D : va_G} {cI cJ cZ : ClassId} {ad : Nat → Nat} {n k : Nat} {gv : Int32} {E : Nat → Int64} {G C Wi O IO NI CF : Nat → Int32} (hn : n ≤ 200) {a x : Int32} (hno : pm_co n a x = false) : RdI l yX0_cost wsX0_cost (rmd 1) D (tyq cI cJ cZ) [.ref (ad 0), .int a, .int x] (w0 cI cJ cZ ad (nI n) (nI k) gv E G C Wi O IO NI CF) (px_b false) := by
  refine px_met (cc := cX0_cost) (maxL := 3) (ret := (some .boolean)) (lv := [(0, .ref (ad 0)), (1, .int a), (2, .int x)]) (by decide +kernel) rfl (Nat.le_of_ble_eq_true rfl) rfl ?_
  intro p e s m below meth c ls S hr hlk hnm hv hl
  obtain ⟨hx, hb, hml, hown, hts⟩ := id S
  obtain ⟨hP, hK⟩ := hv
  have hin : ∀ w ∈ wsX00, w ∈ wsX0_cost := fun w h => List.mem_cons_of_mem _ (List.mem_append_right _ h)
  have f17 := hts (.fieldLink RX0 17 "PointColours" "costs" "[I") (by decide +kernel)
  have f51 := hts (.fieldLink RX0 51 "PointColours" "given" "Z") (by decide +kernel)
  refine lv_aload_n hx hb dX0_cost_0 rfl (lv_at hl 0 rfl) ?_
  refine lv_iload_n hx hb dX0_cost_1 rfl (lv_at hl 1 rfl) ?_
  refine px_rd (ci := 0) (q := (RX0, TX0, 11)) (v := px_b (pm_pt n a)) (rest := []) S hP hK (tX0_isPoint (by omega) a) (cwV 1 hts gX0_cost_X0_isPoint rfl rfl rfl (by decide +kernel) ⟨by decide, by decide⟩) rfl rfl rfl hl.1 rfl (Nat.le_of_ble_eq_true rfl) dX0_cost_2 ⟨Nat.zero_le _, Nat.zero_le _⟩ ?_
  refine px_eqb (tgt := 18) hx hb dX0_cost_5 (by decide) (fun h5 => ?_) (fun h5 => ?_)
  · refine lv_iconst (v := px_b false) hx hb dX0_cost_18 (by decide +kernel) ?_
    exact px_rz hx hb hr hlk rfl dX0_cost_19
  · refine lv_iload_n hx hb dX0_cost_8 rfl (lv_at hl 2 rfl) ?_
    refine lv_if_lt (tgt := 18) hx hb dX0_cost_9 (by decide) (fun h9 => ?_) (fun h9 => ?_)
    · refine lv_iconst (v := px_b false) hx hb dX0_cost_18 (by decide +kernel) ?_
      exact px_rz hx hb hr hlk rfl dX0_cost_19
    · refine lv_iload_n hx hb dX0_cost_12 rfl (lv_at hl 2 rfl) ?_
      refine lv_ldc (v := 1000000) hx hb hown (hts (.constant RX0 55 (1000000)) (by decide +kernel)) dX0_cost_13 ?_
      refine lv_icmp_le (tgt := 20) hx hb dX0_cost_15 (by decide) (fun h15 => ?_) (fun h15 => ?_)
      · rw [pm_co_t h5 h9 h15] at hno
        cases hno
      · refine lv_iconst (v := px_b false) hx hb dX0_cost_18 (by decide +kernel) ?_
        exact px_rz hx hb hr hlk rfl dX0_cost_19
set_option maxHeartbeats 4000000 in
set_option maxRecDepth 100000 in
theorem tX0_cost_ok {l : Launch} {D : va_G} {cI cJ cZ : ClassId} {ad : Nat → Nat} {n k : Nat} {gv : Int32} {E : Nat → Int64} {G C Wi O IO NI CF : Nat → Int32} (hn : n ≤ 200) (a x : Nat) (ha : a < n) (hc : x ≤ 1000000) : WrI l yX0_cost wsX0_cost (rmd 1) D (tyq cI cJ cZ) [.ref (ad 0), .int (nI a), .int (nI x)] (w0 cI cJ cZ ad (nI n) (nI k) gv E G C Wi O IO NI CF) (S := Unit) (fun r _ => r = px_b true) (fun _ => w0 cI cJ cZ ad (nI n) (nI k) (px_b false) E G (upd C a (nI x)) Wi O IO NI CF) := by
  refine px_met (cc := cX0_cost) (maxL := 3) (ret := (some .boolean)) (lv := [(0, .ref (ad 0)), (1, .int (nI a)), (2, .int (nI x))]) (by decide +kernel) rfl (Nat.le_of_ble_eq_true rfl) rfl ?_
  intro p e s m below meth c ls S hr hlk hnm hv hl
  obtain ⟨hx, hb, hml, hown, hts⟩ := id S
  obtain ⟨hP, hK, hD⟩ := hv
  have hin : ∀ w ∈ wsX00, w ∈ wsX0_cost := fun w h => List.mem_cons_of_mem _ (List.mem_append_right _ h)
  have f17 := hts (.fieldLink RX0 17 "PointColours" "costs" "[I") (by decide +kernel)
  have f51 := hts (.fieldLink RX0 51 "PointColours" "given" "Z") (by decide +kernel)
  have hS : va_S (px_B (w0 cI cJ cZ ad (nI n) (nI k) gv E G C Wi O IO NI CF)) s.heap s.heap [] := va_S.rf
  generalize hA : px_B (w0 cI cJ cZ ad (nI n) (nI k) gv E G C Wi O IO NI CF) = A at hD hS ⊢
  refine lv_aload_n hx hb dX0_cost_0 rfl (lv_at hl 0 rfl) ?_
  refine lv_iload_n hx hb dX0_cost_1 rfl (lv_at hl 1 rfl) ?_
  refine px_rd (ci := 0) (q := (RX0, TX0, 11)) (v := px_b (pm_pt n (nI a))) (rest := []) S hP hK (tX0_isPoint (by omega) (nI a)) (cwV 1 hts gX0_cost_X0_isPoint rfl rfl rfl (by decide +kernel) ⟨by decide, by decide⟩) rfl rfl rfl hl.1 rfl (Nat.le_of_ble_eq_true rfl) dX0_cost_2 ⟨Nat.zero_le _, Nat.zero_le _⟩ ?_
  refine px_eqb (tgt := 18) hx hb dX0_cost_5 (by decide) (fun h5 => ?_) (fun h5 => ?_)
  · exact absurd h5 (by rw [pm_pt_nI (by omega)]; simp; omega)
  refine lv_iload_n hx hb dX0_cost_8 rfl (lv_at hl 2 rfl) ?_
  refine lv_if_lt (tgt := 18) hx hb dX0_cost_9 (by decide) (fun h9 => ?_) (fun h9 => ?_)
  · exact absurd h9 (nI_pos (by omega))
  refine lv_iload_n hx hb dX0_cost_12 rfl (lv_at hl 2 rfl) ?_
  refine lv_ldc (v := 1000000) hx hb hown (hts (.constant RX0 55 (1000000)) (by decide +kernel)) dX0_cost_13 ?_
  refine W.eq (g2 := F0 m 15 ls (.int (nI 1000000) :: [.int (nI x)])) rfl ?_
  refine px_le (tgt := 20) hx hb dX0_cost_15 (by decide) (by omega) (by omega) (fun h15 => ?_) (fun h15 => ?_)
  rotate_left
  · exact absurd h15 (by omega)
  refine lv_aload_n hx hb dX0_cost_20 rfl (lv_at hl 0 rfl) ?_
  refine va_get (D := D) (ci := 0) (v := .ref (ad 3)) (C := RX0) (T := TX0) (N := 11) hx hb hts hin hown hK hP 0 rfl rfl 5 (by decide) f17 (fun _ h9 => h9) rfl dX0_cost_21 ?_
  refine lv_iload_n hx hb dX0_cost_24 rfl (lv_at hl 1 rfl) ?_
  refine lv_iload_n hx hb dX0_cost_25 rfl (lv_at hl 2 rfl) ?_
  refine px_iast (n := 200) (i := a) (ws' := w0 cI cJ cZ ad (nI n) (nI k) gv E G (upd C a (nI x)) Wi O IO NI CF) hx hb hK hP hD hS 3 0 rfl rfl (by omega) (by decide) rfl dX0_cost_26 (fun H locs hP hD hS => ?_)
  refine lv_aload_n hx hb dX0_cost_27 rfl (lv_at hl 0 rfl) ?_
  refine lv_iconst (v := px_b false) hx hb dX0_cost_28 (by decide +kernel) ?_
  refine px_put (ty := .boolean) (ws' := w0 cI cJ cZ ad (nI n) (nI k) (px_b false) E G (upd C a (nI x)) Wi O IO NI CF) hx hb hts hin tyX0 tyX0_ok nmX0 hown hK hP hD hS 0 rfl rfl 2 (by decide) f51 (fun _ h9 => h9) rfl (by decide +kernel) (px_b_nar _) (px_b_fit _) (Nat.le_of_ble_eq_true rfl) rfl dX0_cost_29 (fun H locs hP hD hS => ?_)
  refine lv_iconst (v := px_b true) hx hb dX0_cost_32 (by decide +kernel) ?_
  exact px_ez (post := fun r (_ : Unit) => r = px_b true) (wf := fun _ : Unit => w0 cI cJ cZ ad (nI n) (nI k) (px_b false) E G (upd C a (nI x)) Wi O IO NI CF) hx hb hr hlk hS () rfl hP dX0_cost_33
set_option maxHeartbeats 4000000 in
set_option maxRecDepth 100000 in
theorem tX1_cost_no {l : Launch} {D : va_G} {cI cJ cZ : ClassId} {bd : Nat → Nat} {n k : Nat} {gv : Int32} {PA C Wi CO RW IN : Nat → Int32} (hn : n ≤ 200) {a x : Int32} (hno : pm_co n a x = false) : RdI l yX1_cost wsX1_cost (rmd 1) D (tyq cI cJ cZ) [.ref (bd 0), .int a, .int x] (w1 cI cZ bd (nI n) (nI k) gv PA C Wi CO RW IN) (px_b false) := by
  refine px_met (cc := cX1_cost) (maxL := 3) (ret := (some .boolean)) (lv := [(0, .ref (bd 0)), (1, .int a), (2, .int x)]) (by decide +kernel) rfl (Nat.le_of_ble_eq_true rfl) rfl ?_
  intro p e s m below meth c ls S hr hlk hnm hv hl
  obtain ⟨hx, hb, hml, hown, hts⟩ := id S
  obtain ⟨hP, hK⟩ := hv
  have hin : ∀ w ∈ wsX10, w ∈ wsX1_cost := fun w h => List.mem_cons_of_mem _ (List.mem_append_right _ h)
  have f14 := hts (.fieldLink RX1 14 "PointColoursModel" "costs" "[I") (by decide +kernel)
  have f41 := hts (.fieldLink RX1 41 "PointColoursModel" "given" "Z") (by decide +kernel)
  refine lv_aload_n hx hb dX1_cost_0 rfl (lv_at hl 0 rfl) ?_
  refine lv_iload_n hx hb dX1_cost_1 rfl (lv_at hl 1 rfl) ?_
  refine px_rd (ci := 1) (q := (RX1, TX1, 9)) (v := px_b (pm_pt n a)) (rest := []) S hP hK (tX1_isPoint (by omega) a) (cwV 1 hts gX1_cost_X1_isPoint rfl rfl rfl (by decide +kernel) ⟨by decide, by decide⟩) rfl rfl rfl hl.1 rfl (Nat.le_of_ble_eq_true rfl) dX1_cost_2 ⟨Nat.zero_le _, Nat.zero_le _⟩ ?_
  refine px_eqb (tgt := 18) hx hb dX1_cost_5 (by decide) (fun h5 => ?_) (fun h5 => ?_)
  · refine lv_iconst (v := px_b false) hx hb dX1_cost_18 (by decide +kernel) ?_
    exact px_rz hx hb hr hlk rfl dX1_cost_19
  · refine lv_iload_n hx hb dX1_cost_8 rfl (lv_at hl 2 rfl) ?_
    refine lv_if_lt (tgt := 18) hx hb dX1_cost_9 (by decide) (fun h9 => ?_) (fun h9 => ?_)
    · refine lv_iconst (v := px_b false) hx hb dX1_cost_18 (by decide +kernel) ?_
      exact px_rz hx hb hr hlk rfl dX1_cost_19
    · refine lv_iload_n hx hb dX1_cost_12 rfl (lv_at hl 2 rfl) ?_
      refine lv_ldc (v := 1000000) hx hb hown (hts (.constant RX1 49 (1000000)) (by decide +kernel)) dX1_cost_13 ?_
      refine lv_icmp_le (tgt := 20) hx hb dX1_cost_15 (by decide) (fun h15 => ?_) (fun h15 => ?_)
      · rw [pm_co_t h5 h9 h15] at hno
        cases hno
      · refine lv_iconst (v := px_b false) hx hb dX1_cost_18 (by decide +kernel) ?_
        exact px_rz hx hb hr hlk rfl dX1_cost_19
set_option maxHeartbeats 4000000 in
set_option maxRecDepth 100000 in
theorem tX1_cost_ok {l : Launch} {D : va_G} {cI cJ cZ : ClassId} {bd : Nat → Nat} {n k : Nat} {gv : Int32} {PA C Wi CO RW IN : Nat → Int32} (hn : n ≤ 200) (a x : Nat) (ha : a < n) (hc : x ≤ 1000000) : WrI l yX1_cost wsX1_cost (rmd 1) D (tyq cI cJ cZ) [.ref (bd 0), .int (nI a), .int (nI x)] (w1 cI cZ bd (nI n) (nI k) gv PA C Wi CO RW IN) (S := Unit) (fun r _ => r = px_b true) (fun _ => w1 cI cZ bd (nI n) (nI k) (px_b false) PA (upd C a (nI x)) Wi CO RW IN) := by
  refine px_met (cc := cX1_cost) (maxL := 3) (ret := (some .boolean)) (lv := [(0, .ref (bd 0)), (1, .int (nI a)), (2, .int (nI x))]) (by decide +kernel) rfl (Nat.le_of_ble_eq_true rfl) rfl ?_
  intro p e s m below meth c ls S hr hlk hnm hv hl
  obtain ⟨hx, hb, hml, hown, hts⟩ := id S
  obtain ⟨hP, hK, hD⟩ := hv
  have hin : ∀ w ∈ wsX10, w ∈ wsX1_cost := fun w h => List.mem_cons_of_mem _ (List.mem_append_right _ h)
  have f14 := hts (.fieldLink RX1 14 "PointColoursModel" "costs" "[I") (by decide +kernel)
  have f41 := hts (.fieldLink RX1 41 "PointColoursModel" "given" "Z") (by decide +kernel)
  have hS : va_S (px_B (w1 cI cZ bd (nI n) (nI k) gv PA C Wi CO RW IN)) s.heap s.heap [] := va_S.rf
  generalize hA : px_B (w1 cI cZ bd (nI n) (nI k) gv PA C Wi CO RW IN) = A at hD hS ⊢
  refine lv_aload_n hx hb dX1_cost_0 rfl (lv_at hl 0 rfl) ?_
  refine lv_iload_n hx hb dX1_cost_1 rfl (lv_at hl 1 rfl) ?_
  refine px_rd (ci := 1) (q := (RX1, TX1, 9)) (v := px_b (pm_pt n (nI a))) (rest := []) S hP hK (tX1_isPoint (by omega) (nI a)) (cwV 1 hts gX1_cost_X1_isPoint rfl rfl rfl (by decide +kernel) ⟨by decide, by decide⟩) rfl rfl rfl hl.1 rfl (Nat.le_of_ble_eq_true rfl) dX1_cost_2 ⟨Nat.zero_le _, Nat.zero_le _⟩ ?_
  refine px_eqb (tgt := 18) hx hb dX1_cost_5 (by decide) (fun h5 => ?_) (fun h5 => ?_)
  · exact absurd h5 (by rw [pm_pt_nI (by omega)]; simp; omega)
  refine lv_iload_n hx hb dX1_cost_8 rfl (lv_at hl 2 rfl) ?_
  refine lv_if_lt (tgt := 18) hx hb dX1_cost_9 (by decide) (fun h9 => ?_) (fun h9 => ?_)
  · exact absurd h9 (nI_pos (by omega))
  refine lv_iload_n hx hb dX1_cost_12 rfl (lv_at hl 2 rfl) ?_
  refine lv_ldc (v := 1000000) hx hb hown (hts (.constant RX1 49 (1000000)) (by decide +kernel)) dX1_cost_13 ?_
  refine W.eq (g2 := F0 m 15 ls (.int (nI 1000000) :: [.int (nI x)])) rfl ?_
  refine px_le (tgt := 20) hx hb dX1_cost_15 (by decide) (by omega) (by omega) (fun h15 => ?_) (fun h15 => ?_)
  rotate_left
  · exact absurd h15 (by omega)
  refine lv_aload_n hx hb dX1_cost_20 rfl (lv_at hl 0 rfl) ?_
  refine va_get (D := D) (ci := 1) (v := .ref (bd 2)) (C := RX1) (T := TX1) (N := 9) hx hb hts hin hown hK hP 0 rfl rfl 1 (by decide) f14 (fun _ h9 => h9) rfl dX1_cost_21 ?_
  refine lv_iload_n hx hb dX1_cost_24 rfl (lv_at hl 1 rfl) ?_
  refine lv_iload_n hx hb dX1_cost_25 rfl (lv_at hl 2 rfl) ?_
  refine px_iast (n := 200) (i := a) (ws' := w1 cI cZ bd (nI n) (nI k) gv PA (upd C a (nI x)) Wi CO RW IN) hx hb hK hP hD hS 2 0 rfl rfl (by omega) (by decide) rfl dX1_cost_26 (fun H locs hP hD hS => ?_)
  refine lv_aload_n hx hb dX1_cost_27 rfl (lv_at hl 0 rfl) ?_
  refine lv_iconst (v := px_b false) hx hb dX1_cost_28 (by decide +kernel) ?_
  refine px_put (ty := .boolean) (ws' := w1 cI cZ bd (nI n) (nI k) (px_b false) PA (upd C a (nI x)) Wi CO RW IN) hx hb hts hin tyX1 tyX1_ok nmX1 hown hK hP hD hS 0 rfl rfl 8 (by decide) f41 (fun _ h9 => h9) rfl (by decide +kernel) (px_b_nar _) (px_b_fit _) (Nat.le_of_ble_eq_true rfl) rfl dX1_cost_29 (fun H locs hP hD hS => ?_)
  refine lv_iconst (v := px_b true) hx hb dX1_cost_32 (by decide +kernel) ?_
  exact px_ez (post := fun r (_ : Unit) => r = px_b true) (wf := fun _ : Unit => w1 cI cZ bd (nI n) (nI k) (px_b false) PA (upd C a (nI x)) Wi CO RW IN) hx hb hr hlk hS () rfl hP dX1_cost_33
set_option maxHeartbeats 4000000 in
set_option maxRecDepth 100000 in
theorem tX0_wish_no {l : Launch} {D : va_G} {cI cJ cZ : ClassId} {ad : Nat → Nat} {n k : Nat} {gv : Int32} {E : Nat → Int64} {G C Wi O IO NI CF : Nat → Int32} (hn : n ≤ 200) {a b : Int32} (hno : (pm_pt n a && pm_pt n b) = false) : RdI l yX0_wish wsX0_wish (rmd 1) D (tyq cI cJ cZ) [.ref (ad 0), .int a, .int b] (w0 cI cJ cZ ad (nI n) (nI k) gv E G C Wi O IO NI CF) (px_b false) := by
  refine px_met (cc := cX0_wish) (maxL := 3) (ret := (some .boolean)) (lv := [(0, .ref (ad 0)), (1, .int a), (2, .int b)]) (by decide +kernel) rfl (Nat.le_of_ble_eq_true rfl) rfl ?_
  intro p e s m below meth c ls S hr hlk hnm hv hl
  obtain ⟨hx, hb, hml, hown, hts⟩ := id S
  obtain ⟨hP, hK⟩ := hv
  have hin : ∀ w ∈ wsX00, w ∈ wsX0_wish := fun w h => List.mem_cons_of_mem _ (List.mem_append_right _ h)
  have f20 := hts (.fieldLink RX0 20 "PointColours" "wishes" "[I") (by decide +kernel)
  have f51 := hts (.fieldLink RX0 51 "PointColours" "given" "Z") (by decide +kernel)
  refine lv_aload_n hx hb dX0_wish_0 rfl (lv_at hl 0 rfl) ?_
  refine lv_iload_n hx hb dX0_wish_1 rfl (lv_at hl 1 rfl) ?_
  refine px_rd (ci := 0) (q := (RX0, TX0, 11)) (v := px_b (pm_pt n a)) (rest := []) S hP hK (tX0_isPoint (by omega) a) (cwV 1 hts gX0_wish_X0_isPoint rfl rfl rfl (by decide +kernel) ⟨by decide, by decide⟩) rfl rfl rfl hl.1 rfl (Nat.le_of_ble_eq_true rfl) dX0_wish_2 ⟨Nat.zero_le _, Nat.zero_le _⟩ ?_
  refine px_eqb (tgt := 16) hx hb dX0_wish_5 (by decide) (fun h5 => ?_) (fun h5 => ?_)
  · refine lv_iconst (v := px_b false) hx hb dX0_wish_16 (by decide +kernel) ?_
    exact px_rz hx hb hr hlk rfl dX0_wish_17
  · refine lv_aload_n hx hb dX0_wish_8 rfl (lv_at hl 0 rfl) ?_
    refine lv_iload_n hx hb dX0_wish_9 rfl (lv_at hl 2 rfl) ?_
    refine px_rd (ci := 0) (q := (RX0, TX0, 11)) (v := px_b (pm_pt n b)) (rest := []) S hP hK (tX0_isPoint (by omega) b) (cwV 1 hts gX0_wish_X0_isPoint rfl rfl rfl (by decide +kernel) ⟨by decide, by decide⟩) rfl rfl rfl hl.1 rfl (Nat.le_of_ble_eq_true rfl) dX0_wish_10 ⟨Nat.zero_le _, Nat.zero_le _⟩ ?_
    refine px_neb (tgt := 18) hx hb dX0_wish_13 (by decide) (fun h13 => ?_) (fun h13 => ?_)
    · rw [h5, h13] at hno
      cases hno
    · refine lv_iconst (v := px_b false) hx hb dX0_wish_16 (by decide +kernel) ?_
      exact px_rz hx hb hr hlk rfl dX0_wish_17
set_option maxHeartbeats 4000000 in
set_option maxRecDepth 100000 in
theorem tX0_wish_ok {l : Launch} {D : va_G} {cI cJ cZ : ClassId} {ad : Nat → Nat} {n k : Nat} {gv : Int32} {E : Nat → Int64} {G C Wi O IO NI CF : Nat → Int32} (hn : n ≤ 200) (a b : Nat) (ha : a < n) (hb2 : b < n) : WrI l yX0_wish wsX0_wish (rmd 1) D (tyq cI cJ cZ) [.ref (ad 0), .int (nI a), .int (nI b)] (w0 cI cJ cZ ad (nI n) (nI k) gv E G C Wi O IO NI CF) (S := Unit) (fun r _ => r = px_b true) (fun _ => w0 cI cJ cZ ad (nI n) (nI k) (px_b false) E G C (upd Wi a (if a = b then -1 else nI b)) O IO NI CF) := by
  refine px_met (cc := cX0_wish) (maxL := 3) (ret := (some .boolean)) (lv := [(0, .ref (ad 0)), (1, .int (nI a)), (2, .int (nI b))]) (by decide +kernel) rfl (Nat.le_of_ble_eq_true rfl) rfl ?_
  intro p e s m below meth c ls S hr hlk hnm hv hl
  obtain ⟨hx, hb, hml, hown, hts⟩ := id S
  obtain ⟨hP, hK, hD⟩ := hv
  have hin : ∀ w ∈ wsX00, w ∈ wsX0_wish := fun w h => List.mem_cons_of_mem _ (List.mem_append_right _ h)
  have f20 := hts (.fieldLink RX0 20 "PointColours" "wishes" "[I") (by decide +kernel)
  have f51 := hts (.fieldLink RX0 51 "PointColours" "given" "Z") (by decide +kernel)
  have hS : va_S (px_B (w0 cI cJ cZ ad (nI n) (nI k) gv E G C Wi O IO NI CF)) s.heap s.heap [] := va_S.rf
  generalize hA : px_B (w0 cI cJ cZ ad (nI n) (nI k) gv E G C Wi O IO NI CF) = A at hD hS ⊢
  refine lv_aload_n hx hb dX0_wish_0 rfl (lv_at hl 0 rfl) ?_
  refine lv_iload_n hx hb dX0_wish_1 rfl (lv_at hl 1 rfl) ?_
  refine px_rd (ci := 0) (q := (RX0, TX0, 11)) (v := px_b (pm_pt n (nI a))) (rest := []) S hP hK (tX0_isPoint (by omega) (nI a)) (cwV 1 hts gX0_wish_X0_isPoint rfl rfl rfl (by decide +kernel) ⟨by decide, by decide⟩) rfl rfl rfl hl.1 rfl (Nat.le_of_ble_eq_true rfl) dX0_wish_2 ⟨Nat.zero_le _, Nat.zero_le _⟩ ?_
  refine px_eqb (tgt := 16) hx hb dX0_wish_5 (by decide) (fun h5 => ?_) (fun h5 => ?_)
  · exact absurd h5 (by rw [pm_pt_nI (by omega)]; simp; omega)
  refine lv_aload_n hx hb dX0_wish_8 rfl (lv_at hl 0 rfl) ?_
  refine lv_iload_n hx hb dX0_wish_9 rfl (lv_at hl 2 rfl) ?_
  refine px_rd (ci := 0) (q := (RX0, TX0, 11)) (v := px_b (pm_pt n (nI b))) (rest := []) S hP hK (tX0_isPoint (by omega) (nI b)) (cwV 1 hts gX0_wish_X0_isPoint rfl rfl rfl (by decide +kernel) ⟨by decide, by decide⟩) rfl rfl rfl hl.1 rfl (Nat.le_of_ble_eq_true rfl) dX0_wish_10 ⟨Nat.zero_le _, Nat.zero_le _⟩ ?_
  refine px_neb (tgt := 18) hx hb dX0_wish_13 (by decide) (fun h13 => ?_) (fun h13 => ?_)
  rotate_left
  · exact absurd h13 (by rw [pm_pt_nI (by omega)]; simp; omega)
  refine lv_aload_n hx hb dX0_wish_18 rfl (lv_at hl 0 rfl) ?_
  refine va_get (D := D) (ci := 0) (v := .ref (ad 4)) (C := RX0) (T := TX0) (N := 11) hx hb hts hin hown hK hP 0 rfl rfl 6 (by decide) f20 (fun _ h9 => h9) rfl dX0_wish_19 ?_
  refine lv_iload_n hx hb dX0_wish_22 rfl (lv_at hl 1 rfl) ?_
  refine lv_iload_n hx hb dX0_wish_23 rfl (lv_at hl 1 rfl) ?_
  refine lv_iload_n hx hb dX0_wish_24 rfl (lv_at hl 2 rfl) ?_
  refine px_ne (tgt := 32) hx hb dX0_wish_25 (by decide) (by omega) (by omega) (fun h25 => ?_) (fun h25 => ?_)
  · refine lv_iload_n hx hb dX0_wish_32 rfl (lv_at hl 2 rfl) ?_
    refine px_iast (n := 200) (i := a) (ws' := w0 cI cJ cZ ad (nI n) (nI k) gv E G C (upd Wi a (nI b)) O IO NI CF) hx hb hK hP hD hS 4 0 rfl rfl (by omega) (by decide) rfl dX0_wish_33 (fun H locs hP hD hS => ?_)
    refine lv_aload_n hx hb dX0_wish_34 rfl (lv_at hl 0 rfl) ?_
    refine lv_iconst (v := px_b false) hx hb dX0_wish_35 (by decide +kernel) ?_
    refine px_put (ty := .boolean) (ws' := w0 cI cJ cZ ad (nI n) (nI k) (px_b false) E G C (upd Wi a (nI b)) O IO NI CF) hx hb hts hin tyX0 tyX0_ok nmX0 hown hK hP hD hS 0 rfl rfl 2 (by decide) f51 (fun _ h9 => h9) rfl (by decide +kernel) (px_b_nar _) (px_b_fit _) (Nat.le_of_ble_eq_true rfl) rfl dX0_wish_36 (fun H locs hP hD hS => ?_)
    refine lv_iconst (v := px_b true) hx hb dX0_wish_39 (by decide +kernel) ?_
    exact px_ez (post := fun r (_ : Unit) => r = px_b true) (wf := fun _ : Unit => w0 cI cJ cZ ad (nI n) (nI k) (px_b false) E G C (upd Wi a (if a = b then -1 else nI b)) O IO NI CF) hx hb hr hlk hS () rfl (by rw [if_neg h25]; exact hP) dX0_wish_40
  · refine lv_iconst (v := -1) hx hb dX0_wish_28 (by decide +kernel) ?_
    refine lv_goto (tgt := 33) hx hb dX0_wish_29 (by decide) ?_
    refine px_iast (n := 200) (i := a) (ws' := w0 cI cJ cZ ad (nI n) (nI k) gv E G C (upd Wi a (-1)) O IO NI CF) hx hb hK hP hD hS 4 0 rfl rfl (by omega) (by decide) rfl dX0_wish_33 (fun H locs hP hD hS => ?_)
    refine lv_aload_n hx hb dX0_wish_34 rfl (lv_at hl 0 rfl) ?_
    refine lv_iconst (v := px_b false) hx hb dX0_wish_35 (by decide +kernel) ?_
    refine px_put (ty := .boolean) (ws' := w0 cI cJ cZ ad (nI n) (nI k) (px_b false) E G C (upd Wi a (-1)) O IO NI CF) hx hb hts hin tyX0 tyX0_ok nmX0 hown hK hP hD hS 0 rfl rfl 2 (by decide) f51 (fun _ h9 => h9) rfl (by decide +kernel) (px_b_nar _) (px_b_fit _) (Nat.le_of_ble_eq_true rfl) rfl dX0_wish_36 (fun H locs hP hD hS => ?_)
    refine lv_iconst (v := px_b true) hx hb dX0_wish_39 (by decide +kernel) ?_
    exact px_ez (post := fun r (_ : Unit) => r = px_b true) (wf := fun _ : Unit => w0 cI cJ cZ ad (nI n) (nI k) (px_b false) E G C (upd Wi a (if a = b then -1 else nI b)) O IO NI CF) hx hb hr hlk hS () rfl (by rw [if_pos h25]; exact hP) dX0_wish_40
set_option maxHeartbeats 4000000 in
set_option maxRecDepth 100000 in
theorem tX1_wish_no {l : Launch} {D : va_G} {cI cJ cZ : ClassId} {bd : Nat → Nat} {n k : Nat} {gv : Int32} {PA C Wi CO RW IN : Nat → Int32} (hn : n ≤ 200) {a b : Int32} (hno : (pm_pt n a && pm_pt n b) = false) : RdI l yX1_wish wsX1_wish (rmd 1) D (tyq cI cJ cZ) [.ref (bd 0), .int a, .int b] (w1 cI cZ bd (nI n) (nI k) gv PA C Wi CO RW IN) (px_b false) := by
  refine px_met (cc := cX1_wish) (maxL := 3) (ret := (some .boolean)) (lv := [(0, .ref (bd 0)), (1, .int a), (2, .int b)]) (by decide +kernel) rfl (Nat.le_of_ble_eq_true rfl) rfl ?_
  intro p e s m below meth c ls S hr hlk hnm hv hl
  obtain ⟨hx, hb, hml, hown, hts⟩ := id S
  obtain ⟨hP, hK⟩ := hv
  have hin : ∀ w ∈ wsX10, w ∈ wsX1_wish := fun w h => List.mem_cons_of_mem _ (List.mem_append_right _ h)
  have f18 := hts (.fieldLink RX1 18 "PointColoursModel" "wishes" "[I") (by decide +kernel)
  have f41 := hts (.fieldLink RX1 41 "PointColoursModel" "given" "Z") (by decide +kernel)
  refine lv_aload_n hx hb dX1_wish_0 rfl (lv_at hl 0 rfl) ?_
  refine lv_iload_n hx hb dX1_wish_1 rfl (lv_at hl 1 rfl) ?_
  refine px_rd (ci := 1) (q := (RX1, TX1, 9)) (v := px_b (pm_pt n a)) (rest := []) S hP hK (tX1_isPoint (by omega) a) (cwV 1 hts gX1_wish_X1_isPoint rfl rfl rfl (by decide +kernel) ⟨by decide, by decide⟩) rfl rfl rfl hl.1 rfl (Nat.le_of_ble_eq_true rfl) dX1_wish_2 ⟨Nat.zero_le _, Nat.zero_le _⟩ ?_
  refine px_eqb (tgt := 16) hx hb dX1_wish_5 (by decide) (fun h5 => ?_) (fun h5 => ?_)
  · refine lv_iconst (v := px_b false) hx hb dX1_wish_16 (by decide +kernel) ?_
    exact px_rz hx hb hr hlk rfl dX1_wish_17
  · refine lv_aload_n hx hb dX1_wish_8 rfl (lv_at hl 0 rfl) ?_
    refine lv_iload_n hx hb dX1_wish_9 rfl (lv_at hl 2 rfl) ?_
    refine px_rd (ci := 1) (q := (RX1, TX1, 9)) (v := px_b (pm_pt n b)) (rest := []) S hP hK (tX1_isPoint (by omega) b) (cwV 1 hts gX1_wish_X1_isPoint rfl rfl rfl (by decide +kernel) ⟨by decide, by decide⟩) rfl rfl rfl hl.1 rfl (Nat.le_of_ble_eq_true rfl) dX1_wish_10 ⟨Nat.zero_le _, Nat.zero_le _⟩ ?_
    refine px_neb (tgt := 18) hx hb dX1_wish_13 (by decide) (fun h13 => ?_) (fun h13 => ?_)
    · rw [h5, h13] at hno
      cases hno
    · refine lv_iconst (v := px_b false) hx hb dX1_wish_16 (by decide +kernel) ?_
      exact px_rz hx hb hr hlk rfl dX1_wish_17
set_option maxHeartbeats 4000000 in
set_option maxRecDepth 100000 in
theorem tX1_wish_ok {l : Launch} {D : va_G} {cI cJ cZ : ClassId} {bd : Nat → Nat} {n k : Nat} {gv : Int32} {PA C Wi CO RW IN : Nat → Int32} (hn : n ≤ 200) (a b : Nat) (ha : a < n) (hb2 : b < n) : WrI l yX1_wish wsX1_wish (rmd 1) D (tyq cI cJ cZ) [.ref (bd 0), .int (nI a), .int (nI b)] (w1 cI cZ bd (nI n) (nI k) gv PA C Wi CO RW IN) (S := Unit) (fun r _ => r = px_b true) (fun _ => w1 cI cZ bd (nI n) (nI k) (px_b false) PA C (upd Wi a (nI b)) CO RW IN) := by
  refine px_met (cc := cX1_wish) (maxL := 3) (ret := (some .boolean)) (lv := [(0, .ref (bd 0)), (1, .int (nI a)), (2, .int (nI b))]) (by decide +kernel) rfl (Nat.le_of_ble_eq_true rfl) rfl ?_
  intro p e s m below meth c ls S hr hlk hnm hv hl
  obtain ⟨hx, hb, hml, hown, hts⟩ := id S
  obtain ⟨hP, hK, hD⟩ := hv
  have hin : ∀ w ∈ wsX10, w ∈ wsX1_wish := fun w h => List.mem_cons_of_mem _ (List.mem_append_right _ h)
  have f18 := hts (.fieldLink RX1 18 "PointColoursModel" "wishes" "[I") (by decide +kernel)
  have f41 := hts (.fieldLink RX1 41 "PointColoursModel" "given" "Z") (by decide +kernel)
  have hS : va_S (px_B (w1 cI cZ bd (nI n) (nI k) gv PA C Wi CO RW IN)) s.heap s.heap [] := va_S.rf
  generalize hA : px_B (w1 cI cZ bd (nI n) (nI k) gv PA C Wi CO RW IN) = A at hD hS ⊢
  refine lv_aload_n hx hb dX1_wish_0 rfl (lv_at hl 0 rfl) ?_
  refine lv_iload_n hx hb dX1_wish_1 rfl (lv_at hl 1 rfl) ?_
  refine px_rd (ci := 1) (q := (RX1, TX1, 9)) (v := px_b (pm_pt n (nI a))) (rest := []) S hP hK (tX1_isPoint (by omega) (nI a)) (cwV 1 hts gX1_wish_X1_isPoint rfl rfl rfl (by decide +kernel) ⟨by decide, by decide⟩) rfl rfl rfl hl.1 rfl (Nat.le_of_ble_eq_true rfl) dX1_wish_2 ⟨Nat.zero_le _, Nat.zero_le _⟩ ?_
  refine px_eqb (tgt := 16) hx hb dX1_wish_5 (by decide) (fun h5 => ?_) (fun h5 => ?_)
  · exact absurd h5 (by rw [pm_pt_nI (by omega)]; simp; omega)
  refine lv_aload_n hx hb dX1_wish_8 rfl (lv_at hl 0 rfl) ?_
  refine lv_iload_n hx hb dX1_wish_9 rfl (lv_at hl 2 rfl) ?_
  refine px_rd (ci := 1) (q := (RX1, TX1, 9)) (v := px_b (pm_pt n (nI b))) (rest := []) S hP hK (tX1_isPoint (by omega) (nI b)) (cwV 1 hts gX1_wish_X1_isPoint rfl rfl rfl (by decide +kernel) ⟨by decide, by decide⟩) rfl rfl rfl hl.1 rfl (Nat.le_of_ble_eq_true rfl) dX1_wish_10 ⟨Nat.zero_le _, Nat.zero_le _⟩ ?_
  refine px_neb (tgt := 18) hx hb dX1_wish_13 (by decide) (fun h13 => ?_) (fun h13 => ?_)
  rotate_left
  · exact absurd h13 (by rw [pm_pt_nI (by omega)]; simp; omega)
  refine lv_aload_n hx hb dX1_wish_18 rfl (lv_at hl 0 rfl) ?_
  refine va_get (D := D) (ci := 1) (v := .ref (bd 3)) (C := RX1) (T := TX1) (N := 9) hx hb hts hin hown hK hP 0 rfl rfl 2 (by decide) f18 (fun _ h9 => h9) rfl dX1_wish_19 ?_
  refine lv_iload_n hx hb dX1_wish_22 rfl (lv_at hl 1 rfl) ?_
  refine lv_iload_n hx hb dX1_wish_23 rfl (lv_at hl 2 rfl) ?_
  refine px_iast (n := 200) (i := a) (ws' := w1 cI cZ bd (nI n) (nI k) gv PA C (upd Wi a (nI b)) CO RW IN) hx hb hK hP hD hS 3 0 rfl rfl (by omega) (by decide) rfl dX1_wish_24 (fun H locs hP hD hS => ?_)
  refine lv_aload_n hx hb dX1_wish_25 rfl (lv_at hl 0 rfl) ?_
  refine lv_iconst (v := px_b false) hx hb dX1_wish_26 (by decide +kernel) ?_
  refine px_put (ty := .boolean) (ws' := w1 cI cZ bd (nI n) (nI k) (px_b false) PA C (upd Wi a (nI b)) CO RW IN) hx hb hts hin tyX1 tyX1_ok nmX1 hown hK hP hD hS 0 rfl rfl 8 (by decide) f41 (fun _ h9 => h9) rfl (by decide +kernel) (px_b_nar _) (px_b_fit _) (Nat.le_of_ble_eq_true rfl) rfl dX1_wish_27 (fun H locs hP hD hS => ?_)
  refine lv_iconst (v := px_b true) hx hb dX1_wish_30 (by decide +kernel) ?_
  exact px_ez (post := fun r (_ : Unit) => r = px_b true) (wf := fun _ : Unit => w1 cI cZ bd (nI n) (nI k) (px_b false) PA C (upd Wi a (nI b)) CO RW IN) hx hb hr hlk hS () rfl hP dX1_wish_31
end
section
/-! who is still in: one fewer each time; the colours -/
theorem pm_cn_congr {f g : Nat → Bool} : ∀ {n : Nat}, (∀ b, b < n → f b = g b) → pm_cn f n = pm_cn g n := by
  intro n
  induction n with
  | zero => intro _; rfl
  | succ n ih => intro h; rw [pm_cn, pm_cn, ih (fun b hb => h b (by omega)), h n (by omega)]
theorem pm_cn_rm {f g : Nat → Bool} {a : Nat} (hfa : f a = true) : ∀ {n : Nat}, a < n → (∀ b, b < n → g b = (f b && !decide (b = a))) → pm_cn f n = pm_cn g n + 1 := by
  intro n
  induction n with
  | zero => intro h; omega
  | succ n ih =>
    intro h hg
    rw [pm_cn, pm_cn]
    by_cases q : n = a
    · subst q
      rw [hg n (by omega), hfa]
      rw [pm_cn_congr (f := f) (g := g) (fun b hb => by rw [hg b (by omega)]; simp; omega)]
      simp
    · rw [ih (by omega) (fun b hb => hg b (by omega)), hg n (by omega)]
      simp [q]
      split <;> omega
theorem pm_cn_pos {f : Nat → Bool} : ∀ {n : Nat}, 0 < pm_cn f n → ∃ a, a < n ∧ f a = true := by
  intro n
  induction n with
  | zero => intro h; simp [pm_cn] at h
  | succ n ih =>
    intro h
    by_cases q : f n = true
    · exact ⟨n, by omega, q⟩
    · rw [pm_cn, if_neg q] at h
      obtain ⟨a, h1, h2⟩ := ih h
      exact ⟨a, by omega, h2⟩
theorem pm_cn_zero {f : Nat → Bool} {n : Nat} (h : ∀ b, b < n → f b = false) : pm_cn f n = 0 := by
  rcases Nat.eq_zero_or_pos (pm_cn f n) with q | q
  · exact q
  · obtain ⟨a, h1, h2⟩ := pm_cn_pos q
    rw [h a h1] at h2; cases h2
theorem pm_cn_all : ∀ n, pm_cn (fun _ => true) n = n := by
  intro n
  induction n with
  | zero => rfl
  | succ n ih => rw [pm_cn, ih]; rfl
theorem pm_bs_some {J : Nat → Nat → Bool} {n : Nat} {cst : Nat → Nat} {inn : Nat → Bool} {a : Nat} (ha : inn a = true) : ∀ i, a < i → ∃ b, pm_bs J n cst inn i = some b := by
  intro i
  induction i with
  | zero => intro h; omega
  | succ i ih =>
    intro h
    rw [pm_bs]
    by_cases q : inn i = true
    · rw [if_pos q]
      cases pm_bs J n cst inn i with
      | none => exact ⟨i, rfl⟩
      | some b =>
        by_cases c : cst i * pm_lf J n inn b < cst b * pm_lf J n inn i
        · exact ⟨i, by simp only [c, if_true]⟩
        · exact ⟨b, by simp only [c, if_false]⟩
    · rw [if_neg q]
      exact ih (by rcases Nat.lt_or_ge a i with z | z; exact z; exact absurd (by rw [show i = a by omega]; exact ha) q)
theorem pm_nx_some {J : Nat → Nat → Bool} {n k : Nat} {cst : Nat → Nat} {inn : Nat → Bool} (h : 0 < pm_cn inn n) : ∃ a, pm_nx J n k cst inn = some a ∧ a < n ∧ inn a = true := by
  obtain ⟨a, h1, h2⟩ := pm_cn_pos h
  rw [pm_nx]
  cases hf : pm_ft (pm_lo J n k inn) n with
  | some b =>
    obtain ⟨h3, h4⟩ := pm_ft_lt hf
    simp [pm_lo] at h4
    exact ⟨b, rfl, h3, h4.1⟩
  | none =>
    obtain ⟨b, hb⟩ := pm_bs_some (J := J) (n := n) (cst := cst) h2 n h1
    obtain ⟨h3, h4⟩ := pm_bs_lt hb
    exact ⟨b, hb, h3, h4⟩
theorem pm_in_cn (J : Nat → Nat → Bool) (n k : Nat) (cst : Nat → Nat) : ∀ i, i ≤ n → pm_cn (pm_in J n k cst i) n = n - i := by
  intro i
  induction i with
  | zero => intro _; exact pm_cn_all n
  | succ i ih =>
    intro h
    have ih := ih (by omega)
    obtain ⟨a, h1, h2, h3⟩ := pm_nx_some (J := J) (k := k) (cst := cst) (inn := pm_in J n k cst i) (n := n) (by omega)
    have := pm_cn_rm (g := pm_in J n k cst (i + 1)) h3 h2 (fun b _ => by
      show (pm_in J n k cst i b && !decide (pm_nx J n k cst (pm_in J n k cst i) = some b)) = _
      rw [h1]
      by_cases q : b = a
      · subst q; simp
      · have q2 : ¬ a = b := fun z => q z.symm
        simp [q, q2])
    omega
theorem pm_od_ok {J : Nat → Nat → Bool} {n k : Nat} {cst : Nat → Nat} {i : Nat} (hi : i < n) : pm_nx J n k cst (pm_in J n k cst i) = some (pm_od J n k cst i) ∧ pm_od J n k cst i < n ∧ pm_in J n k cst i (pm_od J n k cst i) = true := by
  obtain ⟨a, h1, h2, h3⟩ := pm_nx_some (J := J) (k := k) (cst := cst) (inn := pm_in J n k cst i) (n := n) (by rw [pm_in_cn J n k cst i (by omega)]; omega)
  have e : pm_od J n k cst i = a := by rw [pm_od, h1]; rfl
  rw [e]
  exact ⟨h1, h2, h3⟩
theorem pm_in_s {J : Nat → Nat → Bool} {n k : Nat} {cst : Nat → Nat} {i : Nat} (hi : i < n) (a : Nat) : pm_in J n k cst (i + 1) a = (pm_in J n k cst i a && !decide (a = pm_od J n k cst i)) := by
  show (pm_in J n k cst i a && !decide (pm_nx J n k cst (pm_in J n k cst i) = some a)) = _
  rw [(pm_od_ok hi).1]
  by_cases q : a = pm_od J n k cst i
  · rw [q]; simp
  · have q2 : ¬ pm_od J n k cst i = a := fun z => q z.symm
    simp [q, q2]
theorem pm_lf_s {J : Nat → Nat → Bool} {n k : Nat} {cst : Nat → Nat} {i : Nat} (hs : ∀ a b, J a b = J b a) (hi : i < n) (q : Nat) : nI (pm_lf J n (pm_in J n k cst (i + 1)) q) = if J (pm_od J n k cst i) q = true then nI (pm_lf J n (pm_in J n k cst i) q) - nI 1 else nI (pm_lf J n (pm_in J n k cst i) q) := by
  obtain ⟨-, h2, h3⟩ := pm_od_ok (J := J) (k := k) (cst := cst) hi
  by_cases hJ : J (pm_od J n k cst i) q = true
  · rw [if_pos hJ]
    have : pm_lf J n (pm_in J n k cst i) q = pm_lf J n (pm_in J n k cst (i + 1)) q + 1 := pm_cn_rm (a := pm_od J n k cst i) (by rw [h3, hs, hJ]; rfl) h2 (fun b _ => by
      rw [pm_in_s hi]
      cases pm_in J n k cst i b <;> cases J q b <;> simp)
    rw [this]
    exact (nI_pred _).symm
  · rw [if_neg hJ]
    congr 1
    refine pm_cn_congr (fun b _ => ?_)
    rw [pm_in_s hi]
    by_cases z : b = pm_od J n k cst i
    · rw [z, hs, Bool.eq_false_iff.mpr hJ]; simp
    · simp [z]
theorem pm_fr_congr {J : Nat → Nat → Bool} {f g : Nat → Int32} {a : Nat} {c : Int32} : ∀ {n : Nat}, (∀ b, b < n → f b = g b) → pm_fr J f a c n = pm_fr J g a c n := by
  intro n
  induction n with
  | zero => intro _; rfl
  | succ n ih => intro h; rw [pm_fr, pm_fr, ih (fun b hb => h b (by omega)), h n (by omega)]
theorem pm_ch_congr {J : Nat → Nat → Bool} {n k : Nat} {ws : Nat → Nat} {f g : Nat → Int32} {a : Nat} (hw : ws a < n) (h : ∀ b, b < n → f b = g b) : pm_ch J n k ws f a = pm_ch J n k ws g a := by
  rw [pm_ch, pm_ch, h _ hw, pm_fr_congr h]
  congr 2
  congr 1
  funext c
  exact pm_fr_congr h
theorem pm_o_ok {f : Nat → Bool} {k : Nat} : pm_ok k (pm_o (pm_ft f k)) := by
  cases h : pm_ft f k with
  | none => exact Or.inl rfl
  | some c => exact Or.inr ⟨c, (pm_ft_lt h).1, rfl⟩
theorem pm_ch_ok {J : Nat → Nat → Bool} {n k : Nat} {ws : Nat → Nat} {col : Nat → Int32} (h : ∀ a, pm_ok k (col a)) (a : Nat) : pm_ok k (pm_ch J n k ws col a) := by
  rw [pm_ch]
  split
  · exact h _
  · exact pm_o_ok
theorem pm_cs_ok (J : Nat → Nat → Bool) (n k : Nat) (cst ws : Nat → Nat) : ∀ t a, pm_ok k (pm_cs J n k cst ws t a) := by
  intro t
  induction t with
  | zero => intro a; exact Or.inl rfl
  | succ t ih =>
    intro a
    rw [pm_cs]
    by_cases q : a = pm_od J n k cst (n - 1 - t)
    · rw [q, pk_us]; exact pm_ch_ok ih _
    · rw [pk_un q]; exact ih a
theorem pm_cs_s {J : Nat → Nat → Bool} {n k : Nat} {cst ws : Nat → Nat} {i : Nat} (hi : i < n) : pm_cs J n k cst ws (n - i) = upd (pm_cs J n k cst ws (n - (i + 1))) (pm_od J n k cst i) (pm_ch J n k ws (pm_cs J n k cst ws (n - (i + 1))) (pm_od J n k cst i)) := by
  obtain ⟨t, ht⟩ : ∃ t, n - (i + 1) = t := ⟨_, rfl⟩
  rw [ht, show n - i = t + 1 by omega, pm_cs, show n - 1 - t = i by omega]
theorem pm_nn_s {J : Nat → Nat → Bool} {n k : Nat} {cst ws : Nat → Nat} {i : Nat} (hi : i < n) : pm_nn J n k cst ws (n - i) = pm_nn J n k cst ws (n - (i + 1)) + (if pm_ch J n k ws (pm_cs J n k cst ws (n - (i + 1))) (pm_od J n k cst i) < 0 then 1 else 0) := by
  obtain ⟨t, ht⟩ : ∃ t, n - (i + 1) = t := ⟨_, rfl⟩
  rw [ht, show n - i = t + 1 by omega, pm_nn, pm_cn, show n - 1 - t = i by omega]
  simp [pm_nn]
/-- as many got none as have none in the end -/
theorem pm_nn_cn {J : Nat → Nat → Bool} {n k : Nat} {cst ws : Nat → Nat} (hk : k ≤ 30) : pm_nn J n k cst ws n = pm_cn (fun q => decide (pm_cs J n k cst ws n q = -1)) n := by
  have key : ∀ i j, i + j = n → pm_nn J n k cst ws (n - i) = pm_cn (fun q => pm_in J n k cst i q && decide (pm_cs J n k cst ws (n - i) q = -1)) n := by
    intro i j
    induction j generalizing i with
    | zero =>
      intro h
      have hin := pm_in_cn J n k cst i (by omega)
      rw [show n - i = 0 by omega] at hin ⊢
      rw [pm_cn_zero (fun b hb => ?_)]
      · rfl
      · cases hq : pm_in J n k cst i b with
        | false => rfl
        | true =>
          have h1 := pm_cn_rm (g := fun z => pm_in J n k cst i z && !decide (z = b)) hq hb (fun _ _ => rfl)
          omega
    | succ j ih =>
      intro h
      have hi : i < n := by omega
      have ih := ih (i + 1) (by omega)
      rw [pm_nn_s hi, ih]
      obtain ⟨-, h2, h3⟩ := pm_od_ok (J := J) (k := k) (cst := cst) hi
      have hok := pm_ok_lt hk (pm_ch_ok (J := J) (n := n) (ws := ws) (pm_cs_ok J n k cst ws (n - (i + 1))) (pm_od J n k cst i))
      rw [pm_cs_s hi]
      by_cases q : pm_ch J n k ws (pm_cs J n k cst ws (n - (i + 1))) (pm_od J n k cst i) < 0
      · rw [if_pos q]
        symm
        refine pm_cn_rm (a := pm_od J n k cst i) (by rw [h3, pk_us, hok.mp q]; rfl) h2 (fun b _ => ?_)
        rw [pm_in_s hi]
        by_cases z : b = pm_od J n k cst i
        · simp [z]
        · rw [pk_un z]; simp [z]
      · rw [if_neg q]
        refine pm_cn_congr (fun b _ => ?_)
        rw [pm_in_s hi]
        by_cases z : b = pm_od J n k cst i
        · rw [z, pk_us]
          have : ¬ pm_ch J n k ws (pm_cs J n k cst ws (n - (i + 1))) (pm_od J n k cst i) = -1 := fun y => q (hok.mpr y)
          simp [this]
        · rw [pk_un z]; simp [z]
  have := key 0 n (by omega)
  rw [show n - 0 = n from rfl] at this
  rw [this]
  exact pm_cn_congr (fun b _ => by simp [pm_in])
end
section
set_option maxHeartbeats 4000000 in
set_option maxRecDepth 100000 in
theorem tX0_takeOut {l : Launch} {D : va_G} {cI cJ cZ : ClassId} {ad : Nat → Nat} {n k : Nat} {gv : Int32} {E : Nat → Int64} {G C Wi O IO NI CF : Nat → Int32} (J : Nat → Nat → Bool) (hJ : ∀ a b, a < 200 → b < 200 → pm_ed E a b = J a b) (hn : n ≤ 200) (a : Nat) (ha : a < n) : WrV l yX0_takeOut wsX0_takeOut (rmd 2) D (tyq cI cJ cZ) [.ref (ad 0), .int (nI a)] (w0 cI cJ cZ ad (nI n) (nI k) gv E G C Wi O IO NI CF) (S := (Nat → Int32)) (fun N => ∀ q, q < n → N q = if J a q = true then NI q - nI 1 else NI q) (fun N => w0 cI cJ cZ ad (nI n) (nI k) gv E G C Wi O (upd IO a (px_b true)) N CF) := by
  refine px_met (cc := cX0_takeOut) (maxL := 3) (ret := none) (lv := [(0, .ref (ad 0)), (1, .int (nI a))]) (by decide +kernel) rfl (Nat.le_of_ble_eq_true rfl) rfl ?_
  intro p e s m below meth c ls S hr hlk hnm hv hl
  obtain ⟨hx, hb, hml, hown, hts⟩ := id S
  obtain ⟨hP, hK, hD⟩ := hv
  have hin : ∀ w ∈ wsX00, w ∈ wsX0_takeOut := fun w h => List.mem_cons_of_mem _ (List.mem_append_right _ h)
  have f26 := hts (.fieldLink RX0 26 "PointColours" "isOut" "[Z") (by decide +kernel)
  have f66 := hts (.fieldLink RX0 66 "PointColours" "points" "I") (by decide +kernel)
  have f30 := hts (.fieldLink RX0 30 "PointColours" "neighboursIn" "[I") (by decide +kernel)
  have hS : va_S (px_B (w0 cI cJ cZ ad (nI n) (nI k) gv E G C Wi O IO NI CF)) s.heap s.heap [] := va_S.rf
  generalize hA : px_B (w0 cI cJ cZ ad (nI n) (nI k) gv E G C Wi O IO NI CF) = A at hD hS ⊢
  have loop : ∀ (f i : Nat) (N : Nat → Int32) (H : Heap) (locs : List Loc), n + 1 ≤ i + f → i ≤ n → (∀ q, q < i → N q = if J a q = true then NI q - nI 1 else NI q) → (∀ q, i ≤ q → N q = NI q) → va_P D vwCl (w0 cI cJ cZ ad (nI n) (nI k) gv E G C Wi O (upd IO a (px_b true)) N CF) H → va_D A (w0 cI cJ cZ ad (nI n) (nI k) gv E G C Wi O (upd IO a (px_b true)) N CF) → va_S A s.heap H locs → ∀ ls : Array Slot, lv_has ls 3 [(2, .int (nI i)), (1, .int (nI a)), (0, .ref (ad 0))] → W p l e (rmd 2) s m ([.ref (ad 0), .int (nI a)] : List Value).toArray below meth c H locs 0 0 (MQ below (va_Qv (S := (Nat → Int32)) (fun N => ∀ q, q < n → N q = if J a q = true then NI q - nI 1 else NI q) (fun u t => va_P D vwCl ((fun N => w0 cI cJ cZ ad (nI n) (nI k) gv E G C Wi O (upd IO a (px_b true)) N CF) u) t.heap) A) ([.ref (ad 0), .int (nI a)] : List Value).toArray s 0 0 A) (F0 m 18 ls []) := by
    intro f
    induction f with
    | zero => intro i N H locs h1 h2; exact absurd h1 (by omega)
    | succ f ih =>
      intro i N H locs h1 h2 ha2 hb2 hP hD hS ls hl
      refine lv_iload_n hx hb dX0_takeOut_18 rfl (lv_at hl 0 rfl) ?_
      refine lv_aload_n hx hb dX0_takeOut_19 rfl (lv_at hl 2 rfl) ?_
      refine va_get (D := D) (ci := 0) (v := .int (nI n)) (C := RX0) (T := TX0) (N := 11) hx hb hts hin hown hK hP 0 rfl rfl 0 (by decide) f66 (fun _ h9 => h9) rfl dX0_takeOut_20 ?_
      refine px_ge (tgt := 51) hx hb dX0_takeOut_23 (by decide) (by omega) (by omega) (fun h23 => ?_) (fun h23 => ?_)
      · exact px_ev (post := fun N => ∀ q, q < n → N q = if J a q = true then NI q - nI 1 else NI q) (wf := fun N => w0 cI cJ cZ ad (nI n) (nI k) gv E G C Wi O (upd IO a (px_b true)) N CF) hx hb hr hlk hS N (fun q hq => ha2 q (by omega)) hP dX0_takeOut_51
      · refine lv_aload_n hx hb dX0_takeOut_26 rfl (lv_at hl 2 rfl) ?_
        refine lv_iload_n hx hb dX0_takeOut_27 rfl (lv_at hl 1 rfl) ?_
        refine lv_iload_n hx hb dX0_takeOut_28 rfl (lv_at hl 0 rfl) ?_
        refine px_rd (ci := 0) (q := (RX0, TX0, 11)) (v := px_b (J a i)) (rest := []) S hP hK (tX0_hasEdge J hJ a i (by omega) (by omega)) (cwV 2 hts gX0_takeOut_X0_hasEdge rfl rfl rfl (by decide +kernel) ⟨by decide, by decide⟩) rfl rfl rfl hl.1 rfl (Nat.le_of_ble_eq_true rfl) dX0_takeOut_29 ⟨Nat.zero_le _, Nat.zero_le _⟩ ?_
        refine px_eqb (tgt := 45) hx hb dX0_takeOut_32 (by decide) (fun h32 => ?_) (fun h32 => ?_)
        · refine lv_iinc (v := nI (i + 1)) (lv' := [(2, .int (nI (i + 1))), (1, .int (nI a)), (0, .ref (ad 0))]) hx hb dX0_takeOut_45 hl (k := 0) rfl (px_inc1 _) (by decide) rfl (fun ls hl => ?_)
          refine lv_goto (tgt := 18) hx hb dX0_takeOut_48 (by decide) ?_
          exact ih (i + 1) N H locs (by omega) (by omega) (fun q hq => by
            by_cases z : q = i
            · rw [z, if_neg (by rw [h32]; decide), hb2 i (by omega)]
            · exact ha2 q (by omega)) (fun q hq => hb2 q (by omega)) hP hD hS ls (lv_sub hl [0, 1, 2] rfl)
        · refine lv_aload_n hx hb dX0_takeOut_35 rfl (lv_at hl 2 rfl) ?_
          refine va_get (D := D) (ci := 0) (v := .ref (ad 7)) (C := RX0) (T := TX0) (N := 11) hx hb hts hin hown hK hP 0 rfl rfl 9 (by decide) f30 (fun _ h9 => h9) rfl dX0_takeOut_36 ?_
          refine lv_iload_n hx hb dX0_takeOut_39 rfl (lv_at hl 0 rfl) ?_
          refine lv_dup2_11 hx hb dX0_takeOut_40 rfl rfl ?_
          refine px_iald (n := 200) (i := i) hx hb hK hP 7 0 rfl rfl (by omega) (by decide) dX0_takeOut_41 ?_
          refine lv_iconst (v := nI 1) hx hb dX0_takeOut_42 (by decide +kernel) ?_
          refine lv_isub hx hb dX0_takeOut_43 ?_
          refine px_iast (n := 200) (i := i) (ws' := w0 cI cJ cZ ad (nI n) (nI k) gv E G C Wi O (upd IO a (px_b true)) (upd N i ((N i) - (nI 1))) CF) hx hb hK hP hD hS 7 0 rfl rfl (by omega) (by decide) rfl dX0_takeOut_44 (fun H locs hP hD hS => ?_)
          refine lv_iinc (v := nI (i + 1)) (lv' := [(2, .int (nI (i + 1))), (1, .int (nI a)), (0, .ref (ad 0))]) hx hb dX0_takeOut_45 hl (k := 0) rfl (px_inc1 _) (by decide) rfl (fun ls hl => ?_)
          refine lv_goto (tgt := 18) hx hb dX0_takeOut_48 (by decide) ?_
          exact ih (i + 1) _ H locs (by omega) (by omega) (fun q hq => by
            by_cases z : q = i
            · rw [z, pk_us, if_pos h32, hb2 i (by omega)]
            · rw [pk_un z]; exact ha2 q (by omega)) (fun q hq => by rw [pk_un (by omega)]; exact hb2 q (by omega)) hP hD hS ls (lv_sub hl [0, 1, 2] rfl)
  refine lv_aload_n hx hb dX0_takeOut_0 rfl (lv_at hl 0 rfl) ?_
  refine lv_iload_n hx hb dX0_takeOut_1 rfl (lv_at hl 1 rfl) ?_
  refine px_rd (ci := 0) (q := (RX0, TX0, 11)) (v := px_b (pm_pt n (nI a))) (rest := []) S hP hK (tX0_isPoint (by omega) (nI a)) (cwV 1 hts gX0_takeOut_X0_isPoint rfl rfl rfl (by decide +kernel) ⟨by decide, by decide⟩) rfl rfl rfl hl.1 rfl (Nat.le_of_ble_eq_true rfl) dX0_takeOut_2 ⟨Nat.zero_le _, Nat.zero_le _⟩ ?_
  refine px_neb (tgt := 9) hx hb dX0_takeOut_5 (by decide) (fun h5 => ?_) (fun h5 => ?_)
  rotate_left
  · exact absurd h5 (by rw [pm_pt_nI (by omega)]; simp; omega)
  refine lv_aload_n hx hb dX0_takeOut_9 rfl (lv_at hl 0 rfl) ?_
  refine va_get (D := D) (ci := 0) (v := .ref (ad 6)) (C := RX0) (T := TX0) (N := 11) hx hb hts hin hown hK hP 0 rfl rfl 8 (by decide) f26 (fun _ h9 => h9) rfl dX0_takeOut_10 ?_
  refine lv_iload_n hx hb dX0_takeOut_13 rfl (lv_at hl 1 rfl) ?_
  refine lv_iconst (v := px_b true) hx hb dX0_takeOut_14 (by decide +kernel) ?_
  refine px_zast (x := true) (n := 200) (i := a) (ws' := w0 cI cJ cZ ad (nI n) (nI k) gv E G C Wi O (upd IO a (px_b true)) NI CF) hx hb hK hP hD hS 6 2 rfl rfl (by omega) (by decide) rfl dX0_takeOut_15 (fun H locs hP hD hS => ?_)
  refine lv_iconst (v := nI 0) hx hb dX0_takeOut_16 (by decide +kernel) ?_
  refine lv_istore_n (lv' := [(2, .int (nI 0)), (0, .ref (ad 0)), (1, .int (nI a))]) hx hb dX0_takeOut_17 rfl hl (by decide) rfl (fun ls hl => ?_)
  exact loop (n + 1) 0 NI H locs (by omega) (by omega) (fun q hq => absurd hq (by omega)) (fun q _ => rfl) hP hD hS ls (lv_sub hl [0, 2, 1] rfl)
set_option maxHeartbeats 4000000 in
set_option maxRecDepth 100000 in
theorem tX0_takeAllOut {l : Launch} {D : va_G} {cI cJ cZ : ClassId} {ad : Nat → Nat} {n k : Nat} {gv : Int32} {E : Nat → Int64} {G C Wi O IO NI CF : Nat → Int32} (J : Nat → Nat → Bool) (hJ : ∀ a b, a < 200 → b < 200 → pm_ed E a b = J a b) (hsym : ∀ a b, J a b = J b a) (cst : Nat → Nat) (hn : n ≤ 200) (hk : k ≤ 30) (hG : ∀ a, a < n → G a = nI (pm_cn (J a) n)) (hC : ∀ a, a < 200 → C a = nI (cst a)) (hc1 : ∀ a, cst a ≤ 1000000) : WrV l yX0_takeAllOut wsX0_takeAllOut (rmd 3) D (tyq cI cJ cZ) [.ref (ad 0)] (w0 cI cJ cZ ad (nI n) (nI k) gv E G C Wi O IO NI CF) (S := (Nat → Int32) × (Nat → Int32) × (Nat → Int32)) (fun u => ∀ i, i < n → u.1 i = nI (pm_od J n k cst i)) (fun u => w0 cI cJ cZ ad (nI n) (nI k) gv E G C Wi u.1 u.2.1 u.2.2 CF) := by
  refine px_met (cc := cX0_takeAllOut) (maxL := 2) (ret := none) (lv := [(0, .ref (ad 0))]) (by decide +kernel) rfl (Nat.le_of_ble_eq_true rfl) rfl ?_
  intro p e s m below meth c ls S hr hlk hnm hv hl
  obtain ⟨hx, hb, hml, hown, hts⟩ := id S
  obtain ⟨hP, hK, hD⟩ := hv
  have hin : ∀ w ∈ wsX00, w ∈ wsX0_takeAllOut := fun w h => List.mem_cons_of_mem _ (List.mem_append_right _ h)
  have f66 := hts (.fieldLink RX0 66 "PointColours" "points" "I") (by decide +kernel)
  have f26 := hts (.fieldLink RX0 26 "PointColours" "isOut" "[Z") (by decide +kernel)
  have f30 := hts (.fieldLink RX0 30 "PointColours" "neighboursIn" "[I") (by decide +kernel)
  have f13 := hts (.fieldLink RX0 13 "PointColours" "degrees" "[I") (by decide +kernel)
  have f23 := hts (.fieldLink RX0 23 "PointColours" "order" "[I") (by decide +kernel)
  have hS : va_S (px_B (w0 cI cJ cZ ad (nI n) (nI k) gv E G C Wi O IO NI CF)) s.heap s.heap [] := va_S.rf
  generalize hA : px_B (w0 cI cJ cZ ad (nI n) (nI k) gv E G C Wi O IO NI CF) = A at hD hS ⊢
  have second : ∀ (f i : Nat) (P B N : Nat → Int32) (H : Heap) (locs : List Loc), n + 1 ≤ i + f → i ≤ n → (∀ j, j < i → P j = nI (pm_od J n k cst j)) → (∀ a, a < n → B a = px_b (!pm_in J n k cst i a)) → (∀ a, a < n → N a = nI (pm_lf J n (pm_in J n k cst i) a)) → va_P D vwCl (w0 cI cJ cZ ad (nI n) (nI k) gv E G C Wi P B N CF) H → va_D A (w0 cI cJ cZ ad (nI n) (nI k) gv E G C Wi P B N CF) → va_S A s.heap H locs → ∀ ls : Array Slot, lv_has ls 2 [(1, .int (nI i)), (0, .ref (ad 0))] → W p l e (rmd 3) s m ([.ref (ad 0)] : List Value).toArray below meth c H locs 0 0 (MQ below (va_Qv (S := (Nat → Int32) × (Nat → Int32) × (Nat → Int32)) (fun u => ∀ i, i < n → u.1 i = nI (pm_od J n k cst i)) (fun u t => va_P D vwCl ((fun u => w0 cI cJ cZ ad (nI n) (nI k) gv E G C Wi u.1 u.2.1 u.2.2 CF) u) t.heap) A) ([.ref (ad 0)] : List Value).toArray s 0 0 A) (F0 m 37 ls []) := by
    intro f
    induction f with
    | zero => intro i P B N H locs h1 h2; exact absurd h1 (by omega)
    | succ f ih =>
      intro i P B N H locs h1 h2 hO hB hN hP hD hS ls hl
      refine lv_iload_n hx hb dX0_takeAllOut_37 rfl (lv_at hl 0 rfl) ?_
      refine lv_aload_n hx hb dX0_takeAllOut_38 rfl (lv_at hl 1 rfl) ?_
      refine va_get (D := D) (ci := 0) (v := .int (nI n)) (C := RX0) (T := TX0) (N := 11) hx hb hts hin hown hK hP 0 rfl rfl 0 (by decide) f66 (fun _ h9 => h9) rfl dX0_takeAllOut_39 ?_
      refine px_ge (tgt := 71) hx hb dX0_takeAllOut_42 (by decide) (by omega) (by omega) (fun h42 => ?_) (fun h42 => ?_)
      · exact px_ev (σ := (Nat → Int32) × (Nat → Int32) × (Nat → Int32)) (post := fun u => ∀ i, i < n → u.1 i = nI (pm_od J n k cst i)) (wf := fun u => w0 cI cJ cZ ad (nI n) (nI k) gv E G C Wi u.1 u.2.1 u.2.2 CF) hx hb hr hlk hS (P, B, N) (fun j hj => hO j (by omega)) hP dX0_takeAllOut_71
      · obtain ⟨ho1, ho2, ho3⟩ := pm_od_ok (J := J) (k := k) (cst := cst) h42
        refine lv_aload_n hx hb dX0_takeAllOut_45 rfl (lv_at hl 1 rfl) ?_
        refine va_get (D := D) (ci := 0) (v := .ref (ad 5)) (C := RX0) (T := TX0) (N := 11) hx hb hts hin hown hK hP 0 rfl rfl 7 (by decide) f23 (fun _ h9 => h9) rfl dX0_takeAllOut_46 ?_
        refine lv_iload_n hx hb dX0_takeAllOut_49 rfl (lv_at hl 0 rfl) ?_
        refine lv_aload_n hx hb dX0_takeAllOut_50 rfl (lv_at hl 1 rfl) ?_
        refine px_rd (ci := 0) (q := (RX0, TX0, 11)) (v := pm_o (pm_nx J n k cst (pm_in J n k cst i))) (rest := [.int (nI i), .ref (ad 5)]) S hP hK (tX0_nextOut J cst (pm_in J n k cst i) hn hk hB hN hC hc1) (cwV 0 hts gX0_takeAllOut_X0_nextOut rfl rfl rfl (by decide +kernel) ⟨by decide, by decide⟩) rfl rfl rfl hl.1 rfl (Nat.le_of_ble_eq_true rfl) dX0_takeAllOut_51 ⟨Nat.zero_le _, Nat.zero_le _⟩ ?_
        refine px_top (y := nI (pm_od J n k cst i)) (by rw [ho1]; rfl) ?_
        refine px_iast (n := 200) (i := i) (ws' := w0 cI cJ cZ ad (nI n) (nI k) gv E G C Wi (upd P i (nI (pm_od J n k cst i))) B N CF) hx hb hK hP hD hS 5 0 rfl rfl (by omega) (by decide) rfl dX0_takeAllOut_54 (fun H locs hP hD hS => ?_)
        refine lv_aload_n hx hb dX0_takeAllOut_55 rfl (lv_at hl 1 rfl) ?_
        refine lv_aload_n hx hb dX0_takeAllOut_56 rfl (lv_at hl 1 rfl) ?_
        refine va_get (D := D) (ci := 0) (v := .ref (ad 5)) (C := RX0) (T := TX0) (N := 11) hx hb hts hin hown hK hP 0 rfl rfl 7 (by decide) f23 (fun _ h9 => h9) rfl dX0_takeAllOut_57 ?_
        refine lv_iload_n hx hb dX0_takeAllOut_60 rfl (lv_at hl 0 rfl) ?_
        refine px_iald (n := 200) (i := i) hx hb hK hP 5 0 rfl rfl (by omega) (by decide) dX0_takeAllOut_61 ?_
        refine px_top (y := nI (pm_od J n k cst i)) (pk_us) ?_
        refine px_wv (ci := 0) (q := (RX0, TX0, 11)) (rest := []) S hP hK hD hS (tX0_takeOut J hJ hn (pm_od J n k cst i) ho2) (fun _ => w0_same) (cwV 1 hts gX0_takeAllOut_X0_takeOut rfl rfl rfl (by decide +kernel) ⟨by decide, by decide⟩) rfl rfl rfl hl.1 rfl (Nat.le_of_ble_eq_true rfl) dX0_takeAllOut_62 ⟨Nat.zero_le _, Nat.zero_le _⟩ (fun N2 H locs hN2 hP hD hS _ => ?_)
        have hP : va_P D vwCl (w0 cI cJ cZ ad (nI n) (nI k) gv E G C Wi (upd P i (nI (pm_od J n k cst i))) (upd B (pm_od J n k cst i) (px_b true)) N2 CF) H := hP
        have hD : va_D A (w0 cI cJ cZ ad (nI n) (nI k) gv E G C Wi (upd P i (nI (pm_od J n k cst i))) (upd B (pm_od J n k cst i) (px_b true)) N2 CF) := hD
        refine lv_iinc (v := nI (i + 1)) (lv' := [(1, .int (nI (i + 1))), (0, .ref (ad 0))]) hx hb dX0_takeAllOut_65 hl (k := 0) rfl (px_inc1 _) (by decide) rfl (fun ls hl => ?_)
        refine lv_goto (tgt := 37) hx hb dX0_takeAllOut_68 (by decide) ?_
        exact ih (i + 1) _ _ _ H locs (by omega) (by omega) (fun j hj => by
          by_cases z : j = i
          · rw [z, pk_us]
          · rw [pk_un z]; exact hO j (by omega)) (fun a ha => by
          rw [pm_in_s h42]
          by_cases z : a = pm_od J n k cst i
          · rw [z, pk_us]; simp
          · rw [pk_un z, hB a ha]; simp [z]) (fun a ha => by rw [pm_lf_s hsym h42, ← hN a ha]; exact hN2 a ha) hP hD hS ls (lv_sub hl [0, 1] rfl)
  have first : ∀ (f i : Nat) (B N : Nat → Int32) (H : Heap) (locs : List Loc), n + 1 ≤ i + f → i ≤ n → (∀ j, j < i → B j = px_b false ∧ N j = G j) → va_P D vwCl (w0 cI cJ cZ ad (nI n) (nI k) gv E G C Wi O B N CF) H → va_D A (w0 cI cJ cZ ad (nI n) (nI k) gv E G C Wi O B N CF) → va_S A s.heap H locs → ∀ ls : Array Slot, lv_has ls 2 [(1, .int (nI i)), (0, .ref (ad 0))] → W p l e (rmd 3) s m ([.ref (ad 0)] : List Value).toArray below meth c H locs 0 0 (MQ below (va_Qv (S := (Nat → Int32) × (Nat → Int32) × (Nat → Int32)) (fun u => ∀ i, i < n → u.1 i = nI (pm_od J n k cst i)) (fun u t => va_P D vwCl ((fun u => w0 cI cJ cZ ad (nI n) (nI k) gv E G C Wi u.1 u.2.1 u.2.2 CF) u) t.heap) A) ([.ref (ad 0)] : List Value).toArray s 0 0 A) (F0 m 2 ls []) := by
    intro f
    induction f with
    | zero => intro i B N H locs h1 h2; exact absurd h1 (by omega)
    | succ f ih =>
      intro i B N H locs h1 h2 hI hP hD hS ls hl
      refine lv_iload_n hx hb dX0_takeAllOut_2 rfl (lv_at hl 0 rfl) ?_
      refine lv_aload_n hx hb dX0_takeAllOut_3 rfl (lv_at hl 1 rfl) ?_
      refine va_get (D := D) (ci := 0) (v := .int (nI n)) (C := RX0) (T := TX0) (N := 11) hx hb hts hin hown hK hP 0 rfl rfl 0 (by decide) f66 (fun _ h9 => h9) rfl dX0_takeAllOut_4 ?_
      refine px_ge (tgt := 35) hx hb dX0_takeAllOut_7 (by decide) (by omega) (by omega) (fun h7 => ?_) (fun h7 => ?_)
      · refine lv_iconst (v := nI 0) hx hb dX0_takeAllOut_35 (by decide +kernel) ?_
        refine lv_istore_n (lv' := [(1, .int (nI 0)), (0, .ref (ad 0))]) hx hb dX0_takeAllOut_36 rfl hl (by decide) rfl (fun ls hl => ?_)
        obtain rfl : i = n := by omega
        exact second (i + 1) 0 O B N H locs (by omega) (by omega) (fun j hj => absurd hj (by omega)) (fun a ha => (hI a ha).1) (fun a ha => by rw [(hI a ha).2, hG a ha]; rfl) hP hD hS ls (lv_sub hl [0, 1] rfl)
      · refine lv_aload_n hx hb dX0_takeAllOut_10 rfl (lv_at hl 1 rfl) ?_
        refine va_get (D := D) (ci := 0) (v := .ref (ad 6)) (C := RX0) (T := TX0) (N := 11) hx hb hts hin hown hK hP 0 rfl rfl 8 (by decide) f26 (fun _ h9 => h9) rfl dX0_takeAllOut_11 ?_
        refine lv_iload_n hx hb dX0_takeAllOut_14 rfl (lv_at hl 0 rfl) ?_
        refine lv_iconst (v := px_b false) hx hb dX0_takeAllOut_15 (by decide +kernel) ?_
        refine px_zast (x := false) (n := 200) (i := i) (ws' := w0 cI cJ cZ ad (nI n) (nI k) gv E G C Wi O (upd B i (px_b false)) N CF) hx hb hK hP hD hS 6 2 rfl rfl (by omega) (by decide) rfl dX0_takeAllOut_16 (fun H locs hP hD hS => ?_)
        refine lv_aload_n hx hb dX0_takeAllOut_17 rfl (lv_at hl 1 rfl) ?_
        refine va_get (D := D) (ci := 0) (v := .ref (ad 7)) (C := RX0) (T := TX0) (N := 11) hx hb hts hin hown hK hP 0 rfl rfl 9 (by decide) f30 (fun _ h9 => h9) rfl dX0_takeAllOut_18 ?_
        refine lv_iload_n hx hb dX0_takeAllOut_21 rfl (lv_at hl 0 rfl) ?_
        refine lv_aload_n hx hb dX0_takeAllOut_22 rfl (lv_at hl 1 rfl) ?_
        refine va_get (D := D) (ci := 0) (v := .ref (ad 2)) (C := RX0) (T := TX0) (N := 11) hx hb hts hin hown hK hP 0 rfl rfl 4 (by decide) f13 (fun _ h9 => h9) rfl dX0_takeAllOut_23 ?_
        refine lv_iload_n hx hb dX0_takeAllOut_26 rfl (lv_at hl 0 rfl) ?_
        refine px_iald (n := 200) (i := i) hx hb hK hP 2 0 rfl rfl (by omega) (by decide) dX0_takeAllOut_27 ?_
        refine px_iast (n := 200) (i := i) (ws' := w0 cI cJ cZ ad (nI n) (nI k) gv E G C Wi O (upd B i (px_b false)) (upd N i (G i)) CF) hx hb hK hP hD hS 7 0 rfl rfl (by omega) (by decide) rfl dX0_takeAllOut_28 (fun H locs hP hD hS => ?_)
        refine lv_iinc (v := nI (i + 1)) (lv' := [(1, .int (nI (i + 1))), (0, .ref (ad 0))]) hx hb dX0_takeAllOut_29 hl (k := 0) rfl (px_inc1 _) (by decide) rfl (fun ls hl => ?_)
        refine lv_goto (tgt := 2) hx hb dX0_takeAllOut_32 (by decide) ?_
        exact ih (i + 1) _ _ H locs (by omega) (by omega) (fun j hj => by
          by_cases z : j = i
          · subst z; exact ⟨pk_us, pk_us⟩
          · rw [pk_un z, pk_un z]; exact hI j (by omega)) hP hD hS ls (lv_sub hl [0, 1] rfl)
  refine lv_iconst (v := nI 0) hx hb dX0_takeAllOut_0 (by decide +kernel) ?_
  refine lv_istore_n (lv' := [(1, .int (nI 0)), (0, .ref (ad 0))]) hx hb dX0_takeAllOut_1 rfl hl (by decide) rfl (fun ls hl => ?_)
  exact first (n + 1) 0 IO NI s.heap [] (by omega) (by omega) (fun j hj => absurd hj (by omega)) hP hD hS ls (lv_sub hl [0, 1] rfl)
set_option maxHeartbeats 4000000 in
set_option maxRecDepth 100000 in
theorem tX0_putAllBack {l : Launch} {D : va_G} {cI cJ cZ : ClassId} {ad : Nat → Nat} {n k : Nat} {gv : Int32} {E : Nat → Int64} {G C Wi O IO NI CF : Nat → Int32} (J : Nat → Nat → Bool) (hJ : ∀ a b, a < 200 → b < 200 → pm_ed E a b = J a b) (cst ws : Nat → Nat) (hn : n ≤ 200) (hk : k ≤ 30) (hwn : ∀ a, a < n → ws a < n) (hW : ∀ a, a < n → Wi a = if ws a = a then -1 else nI (ws a)) (hO : ∀ i, i < n → O i = nI (pm_od J n k cst i)) : WrV l yX0_putAllBack wsX0_putAllBack (rmd 4) D (tyq cI cJ cZ) [.ref (ad 0)] (w0 cI cJ cZ ad (nI n) (nI k) gv E G C Wi O IO NI CF) (S := Unit) (fun _ => True) (fun _ => w0 cI cJ cZ ad (nI n) (nI k) gv E G C Wi O IO NI (pm_cs J n k cst ws n)) := by
  refine px_met (cc := cX0_putAllBack) (maxL := 3) (ret := none) (lv := [(0, .ref (ad 0))]) (by decide +kernel) rfl (Nat.le_of_ble_eq_true rfl) rfl ?_
  intro p e s m below meth c ls S hr hlk hnm hv hl
  obtain ⟨hx, hb, hml, hown, hts⟩ := id S
  obtain ⟨hP, hK, hD⟩ := hv
  have hin : ∀ w ∈ wsX00, w ∈ wsX0_putAllBack := fun w h => List.mem_cons_of_mem _ (List.mem_append_right _ h)
  have f33 := hts (.fieldLink RX0 33 "PointColours" "colourOf" "[I") (by decide +kernel)
  have f66 := hts (.fieldLink RX0 66 "PointColours" "points" "I") (by decide +kernel)
  have f23 := hts (.fieldLink RX0 23 "PointColours" "order" "[I") (by decide +kernel)
  have hS : va_S (px_B (w0 cI cJ cZ ad (nI n) (nI k) gv E G C Wi O IO NI CF)) s.heap s.heap [] := va_S.rf
  generalize hA : px_B (w0 cI cJ cZ ad (nI n) (nI k) gv E G C Wi O IO NI CF) = A at hD hS ⊢
  have loop : ∀ (j : Nat), j ≤ n → ∀ (H : Heap) (locs : List Loc), va_P D vwCl (w0 cI cJ cZ ad (nI n) (nI k) gv E G C Wi O IO NI (pm_cs J n k cst ws (n - j))) H → va_D A (w0 cI cJ cZ ad (nI n) (nI k) gv E G C Wi O IO NI (pm_cs J n k cst ws (n - j))) → va_S A s.heap H locs → ∀ ls : Array Slot, lv_has ls 3 [(1, .int (nI j - 1)), (0, .ref (ad 0))] → W p l e (rmd 4) s m ([.ref (ad 0)] : List Value).toArray below meth c H locs 0 0 (MQ below (va_Qv (S := Unit) (fun _ => True) (fun u t => va_P D vwCl ((fun _ => w0 cI cJ cZ ad (nI n) (nI k) gv E G C Wi O IO NI (pm_cs J n k cst ws n)) u) t.heap) A) ([.ref (ad 0)] : List Value).toArray s 0 0 A) (F0 m 15 ls []) := by
    intro j
    induction j with
    | zero =>
      intro h1 H locs hP hD hS ls hl
      refine lv_iload_n hx hb dX0_putAllBack_15 rfl (lv_at hl 0 rfl) ?_
      refine lv_if_lt (tgt := 51) hx hb dX0_putAllBack_16 (by decide) (fun h16 => ?_) (fun h16 => ?_)
      rotate_left
      · exact absurd (by decide +kernel) h16
      exact px_ev (σ := Unit) (post := fun _ => True) (wf := fun _ => w0 cI cJ cZ ad (nI n) (nI k) gv E G C Wi O IO NI (pm_cs J n k cst ws n)) hx hb hr hlk hS () trivial hP dX0_putAllBack_51
    | succ i ih =>
      intro h1 H locs hP hD hS ls hl
      have hl : lv_has ls 3 [(1, .int (nI i)), (0, .ref (ad 0))] := by rw [nI_pred] at hl; exact hl
      obtain ⟨ho1, ho2, ho3⟩ := pm_od_ok (J := J) (k := k) (cst := cst) (show i < n by omega)
      refine lv_iload_n hx hb dX0_putAllBack_15 rfl (lv_at hl 0 rfl) ?_
      refine lv_if_lt (tgt := 51) hx hb dX0_putAllBack_16 (by decide) (fun h16 => ?_) (fun h16 => ?_)
      · exact absurd h16 (nI_pos (by omega))
      refine lv_aload_n hx hb dX0_putAllBack_19 rfl (lv_at hl 1 rfl) ?_
      refine va_get (D := D) (ci := 0) (v := .ref (ad 5)) (C := RX0) (T := TX0) (N := 11) hx hb hts hin hown hK hP 0 rfl rfl 7 (by decide) f23 (fun _ h9 => h9) rfl dX0_putAllBack_20 ?_
      refine lv_iload_n hx hb dX0_putAllBack_23 rfl (lv_at hl 0 rfl) ?_
      refine px_iald (n := 200) (i := i) hx hb hK hP 5 0 rfl rfl (by omega) (by decide) dX0_putAllBack_24 ?_
      refine px_top (y := nI (pm_od J n k cst i)) (hO i (by omega)) ?_
      refine lv_istore_n (lv' := [(2, .int (nI (pm_od J n k cst i))), (1, .int (nI i)), (0, .ref (ad 0))]) hx hb dX0_putAllBack_25 rfl hl (by decide) rfl (fun ls hl => ?_)
      refine lv_aload_n hx hb dX0_putAllBack_26 rfl (lv_at hl 2 rfl) ?_
      refine lv_iload_n hx hb dX0_putAllBack_27 rfl (lv_at hl 0 rfl) ?_
      refine px_rd (ci := 0) (q := (RX0, TX0, 11)) (v := px_b (pm_pt n (nI (pm_od J n k cst i)))) (rest := []) S hP hK (tX0_isPoint (by omega) (nI (pm_od J n k cst i))) (cwV 1 hts gX0_putAllBack_X0_isPoint rfl rfl rfl (by decide +kernel) ⟨by decide, by decide⟩) rfl rfl rfl hl.1 rfl (Nat.le_of_ble_eq_true rfl) dX0_putAllBack_28 ⟨Nat.zero_le _, Nat.zero_le _⟩ ?_
      refine px_eqb (tgt := 45) hx hb dX0_putAllBack_31 (by decide) (fun h31 => ?_) (fun h31 => ?_)
      · exact absurd h31 (by rw [pm_pt_nI (by omega)]; simp; omega)
      refine lv_aload_n hx hb dX0_putAllBack_34 rfl (lv_at hl 2 rfl) ?_
      refine va_get (D := D) (ci := 0) (v := .ref (ad 8)) (C := RX0) (T := TX0) (N := 11) hx hb hts hin hown hK hP 0 rfl rfl 10 (by decide) f33 (fun _ h9 => h9) rfl dX0_putAllBack_35 ?_
      refine lv_iload_n hx hb dX0_putAllBack_38 rfl (lv_at hl 0 rfl) ?_
      refine lv_aload_n hx hb dX0_putAllBack_39 rfl (lv_at hl 2 rfl) ?_
      refine lv_iload_n hx hb dX0_putAllBack_40 rfl (lv_at hl 0 rfl) ?_
      refine px_rd (ci := 0) (q := (RX0, TX0, 11)) (v := pm_ch J n k ws (pm_cs J n k cst ws (n - (i + 1))) (pm_od J n k cst i)) (rest := [.int (nI (pm_od J n k cst i)), .ref (ad 8)]) S hP hK (tX0_chooseColour J hJ ws hn hk (pm_od J n k cst i) ho2 (hwn _ ho2) (hW _ ho2) (fun b _ => pm_cs_ok J n k cst ws _ b)) (cwV 1 hts gX0_putAllBack_X0_chooseColour rfl rfl rfl (by decide +kernel) ⟨by decide, by decide⟩) rfl rfl rfl hl.1 rfl (Nat.le_of_ble_eq_true rfl) dX0_putAllBack_41 ⟨Nat.zero_le _, Nat.zero_le _⟩ ?_
      refine px_iast (n := 200) (i := (pm_od J n k cst i)) (ws' := w0 cI cJ cZ ad (nI n) (nI k) gv E G C Wi O IO NI (upd (pm_cs J n k cst ws (n - (i + 1))) (pm_od J n k cst i) (pm_ch J n k ws (pm_cs J n k cst ws (n - (i + 1))) (pm_od J n k cst i)))) hx hb hK hP hD hS 8 0 rfl rfl (by omega) (by decide) rfl dX0_putAllBack_44 (fun H locs hP hD hS => ?_)
      refine lv_iinc (v := nI i - 1) (lv' := [(1, .int (nI i - 1)), (2, .int (nI (pm_od J n k cst i))), (0, .ref (ad 0))]) hx hb dX0_putAllBack_45 hl (k := 1) rfl (px_dec _) (by decide) rfl (fun ls hl => ?_)
      refine lv_goto (tgt := 15) hx hb dX0_putAllBack_48 (by decide) ?_
      exact ih (by omega) H locs (by rw [pm_cs_s (by omega)]; exact hP) (px_Dm hD w0_same) hS ls (lv_sub hl [0, 2] rfl)
  refine lv_aload_n hx hb dX0_putAllBack_0 rfl (lv_at hl 0 rfl) ?_
  refine va_get (D := D) (ci := 0) (v := .ref (ad 8)) (C := RX0) (T := TX0) (N := 11) hx hb hts hin hown hK hP 0 rfl rfl 10 (by decide) f33 (fun _ h9 => h9) rfl dX0_putAllBack_1 ?_
  refine lv_iconst (v := -1) hx hb dX0_putAllBack_4 (by decide +kernel) ?_
  refine px_ws (ws' := w0 cI cJ cZ ad (nI n) (nI k) gv E G C Wi O IO NI (fun _ => -1)) (rest := []) S hP hK hD hS 8 rfl (tJ7_fillI (by decide)) (va_cwS 2 hts gX0_putAllBack_J7_fill_53178 rfl rfl rfl (by decide +kernel) ⟨by decide, by decide⟩) rfl hl.1 rfl (Nat.le_of_ble_eq_true rfl) dX0_putAllBack_5 ⟨Nat.zero_le _, Nat.zero_le _⟩ rfl (fun H locs hP hD hS => ?_)
  refine lv_aload_n hx hb dX0_putAllBack_8 rfl (lv_at hl 0 rfl) ?_
  refine va_get (D := D) (ci := 0) (v := .int (nI n)) (C := RX0) (T := TX0) (N := 11) hx hb hts hin hown hK hP 0 rfl rfl 0 (by decide) f66 (fun _ h9 => h9) rfl dX0_putAllBack_9 ?_
  refine lv_iconst (v := nI 1) hx hb dX0_putAllBack_12 (by decide +kernel) ?_
  refine lv_isub hx hb dX0_putAllBack_13 ?_
  refine lv_istore_n (lv' := [(1, .int ((nI n) - (nI 1))), (0, .ref (ad 0))]) hx hb dX0_putAllBack_14 rfl hl (by decide) rfl (fun ls hl => ?_)
  exact loop n (by omega) H locs (by rw [Nat.sub_self]; exact hP) (px_Dm hD w0_same) hS ls (lv_sub hl [0, 1] rfl)
set_option maxHeartbeats 4000000 in
set_option maxRecDepth 100000 in
theorem tX0_give {l : Launch} {D : va_G} {cI cJ cZ : ClassId} {ad : Nat → Nat} {n k : Nat} {gv : Int32} {E : Nat → Int64} {G C Wi O IO NI CF : Nat → Int32} (J : Nat → Nat → Bool) (hJ : ∀ a b, a < 200 → b < 200 → pm_ed E a b = J a b) (hsym : ∀ a b, J a b = J b a) (cst ws : Nat → Nat) (hn : n ≤ 200) (hk : k ≤ 30) (hG : ∀ a, a < n → G a = nI (pm_cn (J a) n)) (hC : ∀ a, a < 200 → C a = nI (cst a)) (hc1 : ∀ a, cst a ≤ 1000000) (hwn : ∀ a, a < n → ws a < n) (hW : ∀ a, a < n → Wi a = if ws a = a then -1 else nI (ws a)) : WrI l yX0_give wsX0_give (rmd 5) D (tyq cI cJ cZ) [.ref (ad 0)] (w0 cI cJ cZ ad (nI n) (nI k) gv E G C Wi O IO NI CF) (S := (Nat → Int32) × (Nat → Int32) × (Nat → Int32)) (fun r u => r = nI (pm_cn (fun q => decide (pm_cs J n k cst ws n q = -1)) n) ∧ ∀ i, i < n → u.1 i = nI (pm_od J n k cst i)) (fun u => w0 cI cJ cZ ad (nI n) (nI k) (px_b true) E G C Wi u.1 u.2.1 u.2.2 (pm_cs J n k cst ws n)) := by
  refine px_met (cc := cX0_give) (maxL := 1) (ret := (some .int)) (lv := [(0, .ref (ad 0))]) (by decide +kernel) rfl (Nat.le_of_ble_eq_true rfl) rfl ?_
  intro p e s m below meth c ls S hr hlk hnm hv hl
  obtain ⟨hx, hb, hml, hown, hts⟩ := id S
  obtain ⟨hP, hK, hD⟩ := hv
  have hin : ∀ w ∈ wsX00, w ∈ wsX0_give := fun w h => List.mem_cons_of_mem _ (List.mem_append_right _ h)
  have f51 := hts (.fieldLink RX0 51 "PointColours" "given" "Z") (by decide +kernel)
  have hS : va_S (px_B (w0 cI cJ cZ ad (nI n) (nI k) gv E G C Wi O IO NI CF)) s.heap s.heap [] := va_S.rf
  generalize hA : px_B (w0 cI cJ cZ ad (nI n) (nI k) gv E G C Wi O IO NI CF) = A at hD hS ⊢
  refine lv_aload_n hx hb dX0_give_0 rfl (lv_at hl 0 rfl) ?_
  refine px_wv (ci := 0) (q := (RX0, TX0, 11)) (rest := []) S hP hK hD hS (tX0_takeAllOut J hJ hsym cst hn hk hG hC hc1) (fun _ => w0_same) (cwV 0 hts gX0_give_X0_takeAllOut rfl rfl rfl (by decide +kernel) ⟨by decide, by decide⟩) rfl rfl rfl hl.1 rfl (Nat.le_of_ble_eq_true rfl) dX0_give_1 ⟨Nat.zero_le _, Nat.zero_le _⟩ (fun u H locs hO hP hD hS _ => ?_)
  have hP : va_P D vwCl (w0 cI cJ cZ ad (nI n) (nI k) gv E G C Wi u.1 u.2.1 u.2.2 CF) H := hP
  have hD : va_D A (w0 cI cJ cZ ad (nI n) (nI k) gv E G C Wi u.1 u.2.1 u.2.2 CF) := hD
  refine lv_aload_n hx hb dX0_give_4 rfl (lv_at hl 0 rfl) ?_
  refine px_wv (ci := 0) (q := (RX0, TX0, 11)) (rest := []) S hP hK hD hS (tX0_putAllBack J hJ cst ws hn hk hwn hW hO) (fun _ => w0_same) (cwV 0 hts gX0_give_X0_putAllBack rfl rfl rfl (by decide +kernel) ⟨by decide, by decide⟩) rfl rfl rfl hl.1 rfl (Nat.le_of_ble_eq_true rfl) dX0_give_5 ⟨Nat.zero_le _, Nat.zero_le _⟩ (fun _ H locs _ hP hD hS _ => ?_)
  have hP : va_P D vwCl (w0 cI cJ cZ ad (nI n) (nI k) gv E G C Wi u.1 u.2.1 u.2.2 (pm_cs J n k cst ws n)) H := hP
  have hD : va_D A (w0 cI cJ cZ ad (nI n) (nI k) gv E G C Wi u.1 u.2.1 u.2.2 (pm_cs J n k cst ws n)) := hD
  refine lv_aload_n hx hb dX0_give_8 rfl (lv_at hl 0 rfl) ?_
  refine lv_iconst (v := px_b true) hx hb dX0_give_9 (by decide +kernel) ?_
  refine px_put (ty := .boolean) (ws' := w0 cI cJ cZ ad (nI n) (nI k) (px_b true) E G C Wi u.1 u.2.1 u.2.2 (pm_cs J n k cst ws n)) hx hb hts hin tyX0 tyX0_ok nmX0 hown hK hP hD hS 0 rfl rfl 2 (by decide) f51 (fun _ h9 => h9) rfl (by decide +kernel) (px_b_nar _) (px_b_fit _) (Nat.le_of_ble_eq_true rfl) rfl dX0_give_10 (fun H locs hP hD hS => ?_)
  refine lv_aload_n hx hb dX0_give_13 rfl (lv_at hl 0 rfl) ?_
  refine px_rd (ci := 0) (q := (RX0, TX0, 11)) (v := nI (pm_cn (fun q => decide (pm_cs J n k cst ws n q = -1)) n)) (rest := []) S hP hK (tX0_countColourless hn) (cwV 0 hts gX0_give_X0_countColourless rfl rfl rfl (by decide +kernel) ⟨by decide, by decide⟩) rfl rfl rfl hl.1 rfl (Nat.le_of_ble_eq_true rfl) dX0_give_14 ⟨Nat.zero_le _, Nat.zero_le _⟩ ?_
  exact px_ei (σ := (Nat → Int32) × (Nat → Int32) × (Nat → Int32)) (post := fun r u => r = nI (pm_cn (fun q => decide (pm_cs J n k cst ws n q = -1)) n) ∧ ∀ i, i < n → u.1 i = nI (pm_od J n k cst i)) (wf := fun u => w0 cI cJ cZ ad (nI n) (nI k) (px_b true) E G C Wi u.1 u.2.1 u.2.2 (pm_cs J n k cst ws n)) hx hb hr hlk hS u ⟨rfl, hO⟩ hP dX0_give_17
end
section
set_option maxHeartbeats 4000000 in
set_option maxRecDepth 100000 in
theorem tX1_begin_no {l : Launch} {D : va_G} {cI cJ cZ : ClassId} {bd : Nat → Nat} {n k gv : Int32} {PA C Wi CO RW IN : Nat → Int32} {x y : Int32} (hno : pm_bg x y = false) : RdI l yX1_begin wsX1_begin (rmd 0) D (tyq cI cJ cZ) [.ref (bd 0), .int x, .int y] (w1 cI cZ bd n k gv PA C Wi CO RW IN) (px_b false) := by
  refine px_met (cc := cX1_begin) (maxL := 5) (ret := (some .boolean)) (lv := [(0, .ref (bd 0)), (1, .int x), (2, .int y)]) (by decide +kernel) rfl (Nat.le_of_ble_eq_true rfl) rfl ?_
  intro p e s m below meth c ls S hr hlk hnm hv hl
  obtain ⟨hx, hb, hml, hown, hts⟩ := id S
  obtain ⟨hP, hK⟩ := hv
  have hin : ∀ w ∈ wsX10, w ∈ wsX1_begin := fun w h => List.mem_cons_of_mem _ (List.mem_append_right _ h)
  have f34 := hts (.fieldLink RX1 34 "PointColoursModel" "n" "I") (by decide +kernel)
  have f38 := hts (.fieldLink RX1 38 "PointColoursModel" "k" "I") (by decide +kernel)
  have f41 := hts (.fieldLink RX1 41 "PointColoursModel" "given" "Z") (by decide +kernel)
  have f14 := hts (.fieldLink RX1 14 "PointColoursModel" "costs" "[I") (by decide +kernel)
  have f18 := hts (.fieldLink RX1 18 "PointColoursModel" "wishes" "[I") (by decide +kernel)
  have f10 := hts (.fieldLink RX1 10 "PointColoursModel" "pairs" "[Z") (by decide +kernel)
  refine lv_iload_n hx hb dX1_begin_0 rfl (lv_at hl 1 rfl) ?_
  refine lv_iconst (v := nI 1) hx hb dX1_begin_1 (by decide +kernel) ?_
  refine lv_icmp_lt (tgt := 23) hx hb dX1_begin_2 (by decide) (fun h2 => ?_) (fun h2 => ?_)
  · refine lv_iconst (v := px_b false) hx hb dX1_begin_23 (by decide +kernel) ?_
    exact px_rz hx hb hr hlk rfl dX1_begin_24
  · refine lv_iload_n hx hb dX1_begin_5 rfl (lv_at hl 1 rfl) ?_
    refine lv_sipush (v := nI 200) hx hb dX1_begin_6 (by decide +kernel) ?_
    refine lv_icmp_gt (tgt := 23) hx hb dX1_begin_9 (by decide) (fun h9 => ?_) (fun h9 => ?_)
    · refine lv_iconst (v := px_b false) hx hb dX1_begin_23 (by decide +kernel) ?_
      exact px_rz hx hb hr hlk rfl dX1_begin_24
    · refine lv_iload_n hx hb dX1_begin_12 rfl (lv_at hl 2 rfl) ?_
      refine lv_iconst (v := nI 1) hx hb dX1_begin_13 (by decide +kernel) ?_
      refine lv_icmp_lt (tgt := 23) hx hb dX1_begin_14 (by decide) (fun h14 => ?_) (fun h14 => ?_)
      · refine lv_iconst (v := px_b false) hx hb dX1_begin_23 (by decide +kernel) ?_
        exact px_rz hx hb hr hlk rfl dX1_begin_24
      · refine lv_iload_n hx hb dX1_begin_17 rfl (lv_at hl 2 rfl) ?_
        refine lv_bipush (v := nI 30) hx hb dX1_begin_18 (by decide +kernel) ?_
        refine lv_icmp_le (tgt := 25) hx hb dX1_begin_20 (by decide) (fun h20 => ?_) (fun h20 => ?_)
        · rw [pm_bg_t h2 h9 h14 h20] at hno
          cases hno
        · refine lv_iconst (v := px_b false) hx hb dX1_begin_23 (by decide +kernel) ?_
          exact px_rz hx hb hr hlk rfl dX1_begin_24
theorem px_w1 {D : va_G} {cI cZ : ClassId} {bd : Nat → Nat} {n k gv : Int32} {PA C Wi PA' C' Wi' CO RW IN : Nat → Int32} {H : Heap} (h1 : ∀ q, q < 40000 → PA q = PA' q) (h2 : ∀ q, q < 200 → C q = C' q) (h3 : ∀ q, q < 200 → Wi q = Wi' q) (hP : va_P D vwCl (w1 cI cZ bd n k gv PA C Wi CO RW IN) H) : va_P D vwCl (w1 cI cZ bd n k gv PA' C' Wi' CO RW IN) H := by
  intro j q hq
  match j, hq with
  | 0, hq => cases hq; exact hP 0 _ rfl
  | 1, hq =>
    cases hq
    have h : H[bd 1]? = some (vp_cell cZ (40000, .inl PA)) := hP 1 _ rfl
    show H[bd 1]? = some (vp_cell cZ (40000, .inl PA'))
    rw [h, px_cell h1]
  | 2, hq =>
    cases hq
    have h : H[bd 2]? = some (vp_cell cI (200, .inl C)) := hP 2 _ rfl
    show H[bd 2]? = some (vp_cell cI (200, .inl C'))
    rw [h, px_cell h2]
  | 3, hq =>
    cases hq
    have h : H[bd 3]? = some (vp_cell cI (200, .inl Wi)) := hP 3 _ rfl
    show H[bd 3]? = some (vp_cell cI (200, .inl Wi'))
    rw [h, px_cell h3]
  | 4, hq => cases hq; exact hP 4 _ rfl
  | 5, hq => cases hq; exact hP 5 _ rfl
  | 6, hq => cases hq; exact hP 6 _ rfl
  | j + 7, hq => simp at hq
set_option maxHeartbeats 4000000 in
set_option maxRecDepth 100000 in
theorem tX1_begin_ok {l : Launch} {D : va_G} {cI cJ cZ : ClassId} {bd : Nat → Nat} {n k gv : Int32} {PA C Wi CO RW IN : Nat → Int32} {i j : Nat} (g1 : 1 ≤ i) (g2 : i ≤ 200) (g3 : 1 ≤ j) (g4 : j ≤ 30) : WrI l yX1_begin wsX1_begin (rmd 0) D (tyq cI cJ cZ) [.ref (bd 0), .int (nI i), .int (nI j)] (w1 cI cZ bd n k gv PA C Wi CO RW IN) (S := Unit) (fun r _ => r = px_b true) (fun _ => w1 cI cZ bd (nI i) (nI j) (px_b false) (fun _ => px_b false) (fun _ => nI 0) (fun a => nI a) CO RW IN) := by
  refine px_met (cc := cX1_begin) (maxL := 5) (ret := (some .boolean)) (lv := [(0, .ref (bd 0)), (1, .int (nI i)), (2, .int (nI j))]) (by decide +kernel) rfl (Nat.le_of_ble_eq_true rfl) rfl ?_
  intro p e s m below meth c ls S hr hlk hnm hv hl
  obtain ⟨hx, hb, hml, hown, hts⟩ := id S
  obtain ⟨hP, hK, hD⟩ := hv
  have hin : ∀ w ∈ wsX10, w ∈ wsX1_begin := fun w h => List.mem_cons_of_mem _ (List.mem_append_right _ h)
  have f34 := hts (.fieldLink RX1 34 "PointColoursModel" "n" "I") (by decide +kernel)
  have f38 := hts (.fieldLink RX1 38 "PointColoursModel" "k" "I") (by decide +kernel)
  have f41 := hts (.fieldLink RX1 41 "PointColoursModel" "given" "Z") (by decide +kernel)
  have f14 := hts (.fieldLink RX1 14 "PointColoursModel" "costs" "[I") (by decide +kernel)
  have f18 := hts (.fieldLink RX1 18 "PointColoursModel" "wishes" "[I") (by decide +kernel)
  have f10 := hts (.fieldLink RX1 10 "PointColoursModel" "pairs" "[Z") (by decide +kernel)
  have hS : va_S (px_B (w1 cI cZ bd n k gv PA C Wi CO RW IN)) s.heap s.heap [] := va_S.rf
  generalize hA : px_B (w1 cI cZ bd n k gv PA C Wi CO RW IN) = A at hD hS ⊢
  have outer : ∀ (f a : Nat) (PA2 C2 Wi2 : Nat → Int32) (H : Heap) (locs : List Loc), 201 ≤ a + f → a ≤ 200 → (∀ q, q < a → C2 q = nI 0) → (∀ q, q < a → Wi2 q = nI q) → (∀ x, x < 200 * a → PA2 x = px_b false) → va_P D vwCl (w1 cI cZ bd (nI i) (nI j) (px_b false) PA2 C2 Wi2 CO RW IN) H → va_D A (w1 cI cZ bd (nI i) (nI j) (px_b false) PA2 C2 Wi2 CO RW IN) → va_S A s.heap H locs → ∀ ls : Array Slot, lv_has ls 5 [(3, .int (nI a)), (0, .ref (bd 0)), (1, .int (nI i)), (2, .int (nI j))] → W p l e (rmd 0) s m ([.ref (bd 0), .int (nI i), .int (nI j)] : List Value).toArray below meth c H locs 0 0 (MQ below (va_Qi (S := Unit) (fun r _ => r = px_b true) (fun u t => va_P D vwCl ((fun _ => w1 cI cZ bd (nI i) (nI j) (px_b false) (fun _ => px_b false) (fun _ => nI 0) (fun a => nI a) CO RW IN) u) t.heap) A) ([.ref (bd 0), .int (nI i), .int (nI j)] : List Value).toArray s 0 0 A) (F0 m 42 ls []) := by
    intro f
    induction f with
    | zero => intro a PA2 C2 Wi2 H locs h1 h2; exact absurd h1 (by omega)
    | succ f iho =>
      intro a PA2 C2 Wi2 H locs h1 h2 hc2 hw2 hp2 hP hD hS ls hl
      refine lv_iload_n hx hb dX1_begin_42 rfl (lv_at hl 0 rfl) ?_
      refine lv_sipush (v := nI 200) hx hb dX1_begin_43 (by decide +kernel) ?_
      refine px_ge (tgt := 100) hx hb dX1_begin_46 (by decide) (by omega) (by omega) (fun h46 => ?_) (fun h46 => ?_)
      · refine lv_iconst (v := px_b true) hx hb dX1_begin_100 (by decide +kernel) ?_
        refine px_ez (σ := Unit) (post := fun r _ => r = px_b true) (wf := fun _ => w1 cI cZ bd (nI i) (nI j) (px_b false) (fun _ => px_b false) (fun _ => nI 0) (fun a => nI a) CO RW IN) hx hb hr hlk hS () rfl ?_ dX1_begin_101
        refine px_w1 (fun q hq => hp2 q (by omega)) (fun q hq => hc2 q (by omega)) (fun q hq => hw2 q (by omega)) hP
      · refine lv_aload_n hx hb dX1_begin_49 rfl (lv_at hl 1 rfl) ?_
        refine va_get (D := D) (ci := 1) (v := .ref (bd 2)) (C := RX1) (T := TX1) (N := 9) hx hb hts hin hown hK hP 0 rfl rfl 1 (by decide) f14 (fun _ h9 => h9) rfl dX1_begin_50 ?_
        refine lv_iload_n hx hb dX1_begin_53 rfl (lv_at hl 0 rfl) ?_
        refine lv_iconst (v := nI 0) hx hb dX1_begin_54 (by decide +kernel) ?_
        refine px_iast (n := 200) (i := a) (ws' := w1 cI cZ bd (nI i) (nI j) (px_b false) PA2 (upd C2 a (nI 0)) Wi2 CO RW IN) hx hb hK hP hD hS 2 0 rfl rfl (by omega) (by decide) rfl dX1_begin_55 (fun H locs hP hD hS => ?_)
        refine lv_aload_n hx hb dX1_begin_56 rfl (lv_at hl 1 rfl) ?_
        refine va_get (D := D) (ci := 1) (v := .ref (bd 3)) (C := RX1) (T := TX1) (N := 9) hx hb hts hin hown hK hP 0 rfl rfl 2 (by decide) f18 (fun _ h9 => h9) rfl dX1_begin_57 ?_
        refine lv_iload_n hx hb dX1_begin_60 rfl (lv_at hl 0 rfl) ?_
        refine lv_iload_n hx hb dX1_begin_61 rfl (lv_at hl 0 rfl) ?_
        refine px_iast (n := 200) (i := a) (ws' := w1 cI cZ bd (nI i) (nI j) (px_b false) PA2 (upd C2 a (nI 0)) (upd Wi2 a (nI a)) CO RW IN) hx hb hK hP hD hS 3 0 rfl rfl (by omega) (by decide) rfl dX1_begin_62 (fun H locs hP hD hS => ?_)
        refine lv_iconst (v := nI 0) hx hb dX1_begin_63 (by decide +kernel) ?_
        refine lv_istore (lv' := [(4, .int (nI 0)), (3, .int (nI a)), (0, .ref (bd 0)), (1, .int (nI i)), (2, .int (nI j))]) hx hb dX1_begin_64 hl (by decide) rfl (fun ls hl => ?_)
        generalize hC3 : upd C2 a (nI 0) = C3 at hP hD
        generalize hW3 : upd Wi2 a (nI a) = Wi3 at hP hD
        have hc2 : ∀ q, q < a + 1 → C3 q = nI 0 := fun q hq => by
          rw [← hC3]
          by_cases z : q = a
          · rw [z, pk_us]
          · rw [pk_un z]; exact hc2 q (by omega)
        have hw2 : ∀ q, q < a + 1 → Wi3 q = nI q := fun q hq => by
          rw [← hW3]
          by_cases z : q = a
          · rw [z, pk_us]
          · rw [pk_un z]; exact hw2 q (by omega)
        have inner : ∀ (f b : Nat) (PA2 : Nat → Int32) (H : Heap) (locs : List Loc), 201 ≤ b + f → b ≤ 200 → (∀ x, x < 200 * a + b → PA2 x = px_b false) → va_P D vwCl (w1 cI cZ bd (nI i) (nI j) (px_b false) PA2 C3 Wi3 CO RW IN) H → va_D A (w1 cI cZ bd (nI i) (nI j) (px_b false) PA2 C3 Wi3 CO RW IN) → va_S A s.heap H locs → ∀ ls : Array Slot, lv_has ls 5 [(4, .int (nI b)), (3, .int (nI a)), (0, .ref (bd 0)), (1, .int (nI i)), (2, .int (nI j))] → W p l e (rmd 0) s m ([.ref (bd 0), .int (nI i), .int (nI j)] : List Value).toArray below meth c H locs 0 0 (MQ below (va_Qi (S := Unit) (fun r _ => r = px_b true) (fun u t => va_P D vwCl ((fun _ => w1 cI cZ bd (nI i) (nI j) (px_b false) (fun _ => px_b false) (fun _ => nI 0) (fun a => nI a) CO RW IN) u) t.heap) A) ([.ref (bd 0), .int (nI i), .int (nI j)] : List Value).toArray s 0 0 A) (F0 m 66 ls []) := by
          intro f
          induction f with
          | zero => intro b PA2 H locs h1 h2; exact absurd h1 (by omega)
          | succ f ihi =>
            intro b PA2 H locs h1 h2 hp2 hP hD hS ls hl
            refine lv_iload hx hb dX1_begin_66 (lv_at hl 0 rfl) ?_
            refine lv_sipush (v := nI 200) hx hb dX1_begin_68 (by decide +kernel) ?_
            refine px_ge (tgt := 94) hx hb dX1_begin_71 (by decide) (by omega) (by omega) (fun h71 => ?_) (fun h71 => ?_)
            · refine lv_iinc (v := nI (a + 1)) (lv' := [(3, .int (nI (a + 1))), (4, .int (nI b)), (0, .ref (bd 0)), (1, .int (nI i)), (2, .int (nI j))]) hx hb dX1_begin_94 hl (k := 1) rfl (px_inc1 _) (by decide) rfl (fun ls hl => ?_)
              refine lv_goto (tgt := 42) hx hb dX1_begin_97 (by decide) ?_
              exact iho (a + 1) _ _ _ H locs (by omega) (by omega) hc2 hw2 (fun x hx => hp2 x (by omega)) hP hD hS ls (lv_sub hl [0, 2, 3, 4] rfl)
            · refine lv_aload_n hx hb dX1_begin_74 rfl (lv_at hl 2 rfl) ?_
              refine va_get (D := D) (ci := 1) (v := .ref (bd 1)) (C := RX1) (T := TX1) (N := 9) hx hb hts hin hown hK hP 0 rfl rfl 0 (by decide) f10 (fun _ h9 => h9) rfl dX1_begin_75 ?_
              refine lv_sipush (v := nI 200) hx hb dX1_begin_78 (by decide +kernel) ?_
              refine lv_iload_n hx hb dX1_begin_81 rfl (lv_at hl 1 rfl) ?_
              refine px_mul hx hb dX1_begin_82 ?_
              refine lv_iload hx hb dX1_begin_83 (lv_at hl 0 rfl) ?_
              refine px_add hx hb dX1_begin_85 ?_
              refine lv_iconst (v := px_b false) hx hb dX1_begin_86 (by decide +kernel) ?_
              refine px_zast (x := false) (n := 40000) (i := ((200 * a) + b)) (ws' := w1 cI cZ bd (nI i) (nI j) (px_b false) (upd PA2 ((200 * a) + b) (px_b false)) C3 Wi3 CO RW IN) hx hb hK hP hD hS 1 2 rfl rfl (by omega) (by decide) rfl dX1_begin_87 (fun H locs hP hD hS => ?_)
              refine lv_iinc (v := nI (b + 1)) (lv' := [(4, .int (nI (b + 1))), (3, .int (nI a)), (0, .ref (bd 0)), (1, .int (nI i)), (2, .int (nI j))]) hx hb dX1_begin_88 hl (k := 0) rfl (px_inc1 _) (by decide) rfl (fun ls hl => ?_)
              refine lv_goto (tgt := 66) hx hb dX1_begin_91 (by decide) ?_
              exact ihi (b + 1) _ H locs (by omega) (by omega) (fun x hx => by
                by_cases z : x = 200 * a + b
                · rw [z, pk_us]
                · rw [pk_un z]; exact hp2 x (by omega)) hP hD hS ls (lv_sub hl [0, 1, 2, 3, 4] rfl)
        exact inner 201 0 PA2 H locs (by omega) (by omega) hp2 hP hD hS ls (lv_sub hl [0, 1, 2, 3, 4] rfl)
  refine lv_iload_n hx hb dX1_begin_0 rfl (lv_at hl 1 rfl) ?_
  refine lv_iconst (v := nI 1) hx hb dX1_begin_1 (by decide +kernel) ?_
  refine px_lt (tgt := 23) hx hb dX1_begin_2 (by decide) (by omega) (by omega) (fun h2 => ?_) (fun h2 => ?_)
  · exact absurd h2 (by omega)
  refine lv_iload_n hx hb dX1_begin_5 rfl (lv_at hl 1 rfl) ?_
  refine lv_sipush (v := nI 200) hx hb dX1_begin_6 (by decide +kernel) ?_
  refine px_gt (tgt := 23) hx hb dX1_begin_9 (by decide) (by omega) (by omega) (fun h9 => ?_) (fun h9 => ?_)
  · exact absurd h9 (by omega)
  refine lv_iload_n hx hb dX1_begin_12 rfl (lv_at hl 2 rfl) ?_
  refine lv_iconst (v := nI 1) hx hb dX1_begin_13 (by decide +kernel) ?_
  refine px_lt (tgt := 23) hx hb dX1_begin_14 (by decide) (by omega) (by omega) (fun h14 => ?_) (fun h14 => ?_)
  · exact absurd h14 (by omega)
  refine lv_iload_n hx hb dX1_begin_17 rfl (lv_at hl 2 rfl) ?_
  refine lv_bipush (v := nI 30) hx hb dX1_begin_18 (by decide +kernel) ?_
  refine px_le (tgt := 25) hx hb dX1_begin_20 (by decide) (by omega) (by omega) (fun h20 => ?_) (fun h20 => ?_)
  rotate_left
  · exact absurd h20 (by omega)
  refine lv_aload_n hx hb dX1_begin_25 rfl (lv_at hl 0 rfl) ?_
  refine lv_iload_n hx hb dX1_begin_26 rfl (lv_at hl 1 rfl) ?_
  refine px_put (ty := .int) (ws' := w1 cI cZ bd (nI i) k gv PA C Wi CO RW IN) hx hb hts hin tyX1 tyX1_ok nmX1 hown hK hP hD hS 0 rfl rfl 6 (by decide) f34 (fun _ h9 => h9) rfl (by decide +kernel) rfl rfl (Nat.le_of_ble_eq_true rfl) rfl dX1_begin_27 (fun H locs hP hD hS => ?_)
  refine lv_aload_n hx hb dX1_begin_30 rfl (lv_at hl 0 rfl) ?_
  refine lv_iload_n hx hb dX1_begin_31 rfl (lv_at hl 2 rfl) ?_
  refine px_put (ty := .int) (ws' := w1 cI cZ bd (nI i) (nI j) gv PA C Wi CO RW IN) hx hb hts hin tyX1 tyX1_ok nmX1 hown hK hP hD hS 0 rfl rfl 7 (by decide) f38 (fun _ h9 => h9) rfl (by decide +kernel) rfl rfl (Nat.le_of_ble_eq_true rfl) rfl dX1_begin_32 (fun H locs hP hD hS => ?_)
  refine lv_aload_n hx hb dX1_begin_35 rfl (lv_at hl 0 rfl) ?_
  refine lv_iconst (v := px_b false) hx hb dX1_begin_36 (by decide +kernel) ?_
  refine px_put (ty := .boolean) (ws' := w1 cI cZ bd (nI i) (nI j) (px_b false) PA C Wi CO RW IN) hx hb hts hin tyX1 tyX1_ok nmX1 hown hK hP hD hS 0 rfl rfl 8 (by decide) f41 (fun _ h9 => h9) rfl (by decide +kernel) (px_b_nar _) (px_b_fit _) (Nat.le_of_ble_eq_true rfl) rfl dX1_begin_37 (fun H locs hP hD hS => ?_)
  refine lv_iconst (v := nI 0) hx hb dX1_begin_40 (by decide +kernel) ?_
  refine lv_istore_n (lv' := [(3, .int (nI 0)), (0, .ref (bd 0)), (1, .int (nI i)), (2, .int (nI j))]) hx hb dX1_begin_41 rfl hl (by decide) rfl (fun ls hl => ?_)
  exact outer 201 0 PA C Wi H locs (by omega) (by omega) (fun q hq => absurd hq (by omega)) (fun q hq => absurd hq (by omega)) (fun q hq => absurd hq (by omega)) hP hD hS ls (lv_sub hl [0, 1, 2, 3] rfl)
set_option maxHeartbeats 4000000 in
set_option maxRecDepth 100000 in
theorem tX1_join_ok {l : Launch} {D : va_G} {cI cJ cZ : ClassId} {bd : Nat → Nat} {n k : Nat} {gv : Int32} {PA C Wi CO RW IN : Nat → Int32} (J : Nat → Nat → Bool) (hJ : ∀ a b, a < 200 → b < 200 → PA (200 * a + b) = px_b (J a b)) (hn : n ≤ 200) (a b : Nat) (ha : a < n) (hb2 : b < n) (hab : a ≠ b) (hnJ : J a b = false) : WrI l yX1_join wsX1_join (rmd 1) D (tyq cI cJ cZ) [.ref (bd 0), .int (nI a), .int (nI b)] (w1 cI cZ bd (nI n) (nI k) gv PA C Wi CO RW IN) (S := Unit) (fun r _ => r = px_b true) (fun _ => w1 cI cZ bd (nI n) (nI k) (px_b false) (upd (upd PA (200 * a + b) (px_b true)) (200 * b + a) (px_b true)) C Wi CO RW IN) := by
  refine px_met (cc := cX1_join) (maxL := 3) (ret := (some .boolean)) (lv := [(0, .ref (bd 0)), (1, .int (nI a)), (2, .int (nI b))]) (by decide +kernel) rfl (Nat.le_of_ble_eq_true rfl) rfl ?_
  intro p e s m below meth c ls S hr hlk hnm hv hl
  obtain ⟨hx, hb, hml, hown, hts⟩ := id S
  obtain ⟨hP, hK, hD⟩ := hv
  have hin : ∀ w ∈ wsX10, w ∈ wsX1_join := fun w h => List.mem_cons_of_mem _ (List.mem_append_right _ h)
  have f10 := hts (.fieldLink RX1 10 "PointColoursModel" "pairs" "[Z") (by decide +kernel)
  have f41 := hts (.fieldLink RX1 41 "PointColoursModel" "given" "Z") (by decide +kernel)
  have hS : va_S (px_B (w1 cI cZ bd (nI n) (nI k) gv PA C Wi CO RW IN)) s.heap s.heap [] := va_S.rf
  generalize hA : px_B (w1 cI cZ bd (nI n) (nI k) gv PA C Wi CO RW IN) = A at hD hS ⊢
  refine lv_aload_n hx hb dX1_join_0 rfl (lv_at hl 0 rfl) ?_
  refine lv_iload_n hx hb dX1_join_1 rfl (lv_at hl 1 rfl) ?_
  refine px_rd (ci := 1) (q := (RX1, TX1, 9)) (v := px_b (pm_pt n (nI a))) (rest := []) S hP hK (tX1_isPoint (by omega) (nI a)) (cwV 1 hts gX1_join_X1_isPoint rfl rfl rfl (by decide +kernel) ⟨by decide, by decide⟩) rfl rfl rfl hl.1 rfl (Nat.le_of_ble_eq_true rfl) dX1_join_2 ⟨Nat.zero_le _, Nat.zero_le _⟩ ?_
  refine px_eqb (tgt := 36) hx hb dX1_join_5 (by decide) (fun h5 => ?_) (fun h5 => ?_)
  · exact absurd h5 (by rw [pm_pt_nI (by omega)]; simp; omega)
  refine lv_aload_n hx hb dX1_join_8 rfl (lv_at hl 0 rfl) ?_
  refine lv_iload_n hx hb dX1_join_9 rfl (lv_at hl 2 rfl) ?_
  refine px_rd (ci := 1) (q := (RX1, TX1, 9)) (v := px_b (pm_pt n (nI b))) (rest := []) S hP hK (tX1_isPoint (by omega) (nI b)) (cwV 1 hts gX1_join_X1_isPoint rfl rfl rfl (by decide +kernel) ⟨by decide, by decide⟩) rfl rfl rfl hl.1 rfl (Nat.le_of_ble_eq_true rfl) dX1_join_10 ⟨Nat.zero_le _, Nat.zero_le _⟩ ?_
  refine px_eqb (tgt := 36) hx hb dX1_join_13 (by decide) (fun h13 => ?_) (fun h13 => ?_)
  · exact absurd h13 (by rw [pm_pt_nI (by omega)]; simp; omega)
  refine lv_iload_n hx hb dX1_join_16 rfl (lv_at hl 1 rfl) ?_
  refine lv_iload_n hx hb dX1_join_17 rfl (lv_at hl 2 rfl) ?_
  refine px_eq (tgt := 36) hx hb dX1_join_18 (by decide) (by omega) (by omega) (fun h18 => ?_) (fun h18 => ?_)
  · exact absurd h18 hab
  refine lv_aload_n hx hb dX1_join_21 rfl (lv_at hl 0 rfl) ?_
  refine va_get (D := D) (ci := 1) (v := .ref (bd 1)) (C := RX1) (T := TX1) (N := 9) hx hb hts hin hown hK hP 0 rfl rfl 0 (by decide) f10 (fun _ h9 => h9) rfl dX1_join_22 ?_
  refine lv_sipush (v := nI 200) hx hb dX1_join_25 (by decide +kernel) ?_
  refine lv_iload_n hx hb dX1_join_28 rfl (lv_at hl 1 rfl) ?_
  refine px_mul hx hb dX1_join_29 ?_
  refine lv_iload_n hx hb dX1_join_30 rfl (lv_at hl 2 rfl) ?_
  refine px_add hx hb dX1_join_31 ?_
  refine px_zald (n := 40000) (i := ((200 * a) + b)) hx hb hK hP 1 2 rfl rfl (by omega) (by decide) dX1_join_32 ?_
  refine px_top (y := px_b (J a b)) (hJ _ _ (by omega) (by omega)) ?_
  refine px_eqb (tgt := 38) hx hb dX1_join_33 (by decide) (fun h33 => ?_) (fun h33 => ?_)
  rotate_left
  · exact absurd h33 (by rw [hnJ]; decide)
  refine lv_aload_n hx hb dX1_join_38 rfl (lv_at hl 0 rfl) ?_
  refine va_get (D := D) (ci := 1) (v := .ref (bd 1)) (C := RX1) (T := TX1) (N := 9) hx hb hts hin hown hK hP 0 rfl rfl 0 (by decide) f10 (fun _ h9 => h9) rfl dX1_join_39 ?_
  refine lv_sipush (v := nI 200) hx hb dX1_join_42 (by decide +kernel) ?_
  refine lv_iload_n hx hb dX1_join_45 rfl (lv_at hl 1 rfl) ?_
  refine px_mul hx hb dX1_join_46 ?_
  refine lv_iload_n hx hb dX1_join_47 rfl (lv_at hl 2 rfl) ?_
  refine px_add hx hb dX1_join_48 ?_
  refine lv_iconst (v := px_b true) hx hb dX1_join_49 (by decide +kernel) ?_
  refine px_zast (x := true) (n := 40000) (i := ((200 * a) + b)) (ws' := w1 cI cZ bd (nI n) (nI k) gv (upd PA ((200 * a) + b) (px_b true)) C Wi CO RW IN) hx hb hK hP hD hS 1 2 rfl rfl (by omega) (by decide) rfl dX1_join_50 (fun H locs hP hD hS => ?_)
  refine lv_aload_n hx hb dX1_join_51 rfl (lv_at hl 0 rfl) ?_
  refine va_get (D := D) (ci := 1) (v := .ref (bd 1)) (C := RX1) (T := TX1) (N := 9) hx hb hts hin hown hK hP 0 rfl rfl 0 (by decide) f10 (fun _ h9 => h9) rfl dX1_join_52 ?_
  refine lv_sipush (v := nI 200) hx hb dX1_join_55 (by decide +kernel) ?_
  refine lv_iload_n hx hb dX1_join_58 rfl (lv_at hl 2 rfl) ?_
  refine px_mul hx hb dX1_join_59 ?_
  refine lv_iload_n hx hb dX1_join_60 rfl (lv_at hl 1 rfl) ?_
  refine px_add hx hb dX1_join_61 ?_
  refine lv_iconst (v := px_b true) hx hb dX1_join_62 (by decide +kernel) ?_
  refine px_zast (x := true) (n := 40000) (i := ((200 * b) + a)) (ws' := w1 cI cZ bd (nI n) (nI k) gv (upd (upd PA ((200 * a) + b) (px_b true)) ((200 * b) + a) (px_b true)) C Wi CO RW IN) hx hb hK hP hD hS 1 2 rfl rfl (by omega) (by decide) rfl dX1_join_63 (fun H locs hP hD hS => ?_)
  refine lv_aload_n hx hb dX1_join_64 rfl (lv_at hl 0 rfl) ?_
  refine lv_iconst (v := px_b false) hx hb dX1_join_65 (by decide +kernel) ?_
  refine px_put (ty := .boolean) (ws' := w1 cI cZ bd (nI n) (nI k) (px_b false) (upd (upd PA ((200 * a) + b) (px_b true)) ((200 * b) + a) (px_b true)) C Wi CO RW IN) hx hb hts hin tyX1 tyX1_ok nmX1 hown hK hP hD hS 0 rfl rfl 8 (by decide) f41 (fun _ h9 => h9) rfl (by decide +kernel) (px_b_nar _) (px_b_fit _) (Nat.le_of_ble_eq_true rfl) rfl dX1_join_66 (fun H locs hP hD hS => ?_)
  refine lv_iconst (v := px_b true) hx hb dX1_join_69 (by decide +kernel) ?_
  exact px_ez (post := fun r (_ : Unit) => r = px_b true) (wf := fun _ : Unit => w1 cI cZ bd (nI n) (nI k) (px_b false) (upd (upd PA (200 * a + b) (px_b true)) (200 * b + a) (px_b true)) C Wi CO RW IN) hx hb hr hlk hS () rfl hP dX1_join_70
set_option maxHeartbeats 4000000 in
set_option maxRecDepth 100000 in
theorem tX1_join_no {l : Launch} {D : va_G} {cI cJ cZ : ClassId} {bd : Nat → Nat} {n k : Nat} {gv : Int32} {PA C Wi CO RW IN : Nat → Int32} (J : Nat → Nat → Bool) (hJ : ∀ a b, a < 200 → b < 200 → PA (200 * a + b) = px_b (J a b)) (hn : n ≤ 200) {a b : Int32} (hno : pm_jn n J a b = false) : RdI l yX1_join wsX1_join (rmd 1) D (tyq cI cJ cZ) [.ref (bd 0), .int a, .int b] (w1 cI cZ bd (nI n) (nI k) gv PA C Wi CO RW IN) (px_b false) := by
  refine px_met (cc := cX1_join) (maxL := 3) (ret := (some .boolean)) (lv := [(0, .ref (bd 0)), (1, .int a), (2, .int b)]) (by decide +kernel) rfl (Nat.le_of_ble_eq_true rfl) rfl ?_
  intro p e s m below meth c ls S hr hlk hnm hv hl
  obtain ⟨hx, hb, hml, hown, hts⟩ := id S
  obtain ⟨hP, hK⟩ := hv
  have hin : ∀ w ∈ wsX10, w ∈ wsX1_join := fun w h => List.mem_cons_of_mem _ (List.mem_append_right _ h)
  have f10 := hts (.fieldLink RX1 10 "PointColoursModel" "pairs" "[Z") (by decide +kernel)
  have f41 := hts (.fieldLink RX1 41 "PointColoursModel" "given" "Z") (by decide +kernel)
  refine lv_aload_n hx hb dX1_join_0 rfl (lv_at hl 0 rfl) ?_
  refine lv_iload_n hx hb dX1_join_1 rfl (lv_at hl 1 rfl) ?_
  refine px_rd (ci := 1) (q := (RX1, TX1, 9)) (v := px_b (pm_pt n a)) (rest := []) S hP hK (tX1_isPoint (by omega) a) (cwV 1 hts gX1_join_X1_isPoint rfl rfl rfl (by decide +kernel) ⟨by decide, by decide⟩) rfl rfl rfl hl.1 rfl (Nat.le_of_ble_eq_true rfl) dX1_join_2 ⟨Nat.zero_le _, Nat.zero_le _⟩ ?_
  refine px_eqb (tgt := 36) hx hb dX1_join_5 (by decide) (fun h5 => ?_) (fun h5 => ?_)
  · refine lv_iconst (v := px_b false) hx hb dX1_join_36 (by decide +kernel) ?_
    exact px_rz hx hb hr hlk rfl dX1_join_37
  · refine lv_aload_n hx hb dX1_join_8 rfl (lv_at hl 0 rfl) ?_
    refine lv_iload_n hx hb dX1_join_9 rfl (lv_at hl 2 rfl) ?_
    refine px_rd (ci := 1) (q := (RX1, TX1, 9)) (v := px_b (pm_pt n b)) (rest := []) S hP hK (tX1_isPoint (by omega) b) (cwV 1 hts gX1_join_X1_isPoint rfl rfl rfl (by decide +kernel) ⟨by decide, by decide⟩) rfl rfl rfl hl.1 rfl (Nat.le_of_ble_eq_true rfl) dX1_join_10 ⟨Nat.zero_le _, Nat.zero_le _⟩ ?_
    refine px_eqb (tgt := 36) hx hb dX1_join_13 (by decide) (fun h13 => ?_) (fun h13 => ?_)
    · refine lv_iconst (v := px_b false) hx hb dX1_join_36 (by decide +kernel) ?_
      exact px_rz hx hb hr hlk rfl dX1_join_37
    · obtain ⟨i, hi, rfl⟩ := pm_pt_of (by omega) h5
      obtain ⟨j, hj, rfl⟩ := pm_pt_of (by omega) h13
      refine lv_iload_n hx hb dX1_join_16 rfl (lv_at hl 1 rfl) ?_
      refine lv_iload_n hx hb dX1_join_17 rfl (lv_at hl 2 rfl) ?_
      refine px_eq (tgt := 36) hx hb dX1_join_18 (by decide) (by omega) (by omega) (fun h18 => ?_) (fun h18 => ?_)
      · refine lv_iconst (v := px_b false) hx hb dX1_join_36 (by decide +kernel) ?_
        exact px_rz hx hb hr hlk rfl dX1_join_37
      · refine lv_aload_n hx hb dX1_join_21 rfl (lv_at hl 0 rfl) ?_
        refine va_get (D := D) (ci := 1) (v := .ref (bd 1)) (C := RX1) (T := TX1) (N := 9) hx hb hts hin hown hK hP 0 rfl rfl 0 (by decide) f10 (fun _ h9 => h9) rfl dX1_join_22 ?_
        refine lv_sipush (v := nI 200) hx hb dX1_join_25 (by decide +kernel) ?_
        refine lv_iload_n hx hb dX1_join_28 rfl (lv_at hl 1 rfl) ?_
        refine px_mul hx hb dX1_join_29 ?_
        refine lv_iload_n hx hb dX1_join_30 rfl (lv_at hl 2 rfl) ?_
        refine px_add hx hb dX1_join_31 ?_
        refine px_zald (n := 40000) (i := ((200 * i) + j)) hx hb hK hP 1 2 rfl rfl (by omega) (by decide) dX1_join_32 ?_
        refine px_top (y := px_b (J i j)) (hJ _ _ (by omega) (by omega)) ?_
        refine px_eqb (tgt := 38) hx hb dX1_join_33 (by decide) (fun h33 => ?_) (fun h33 => ?_)
        · exact absurd hno (by simp [pm_jn, pm_pt_nI (show i < 2 ^ 31 by omega), pm_pt_nI (show j < 2 ^ 31 by omega), hi, hj, nI_eq (show i < 2 ^ 31 by omega) (show j < 2 ^ 31 by omega), h18, nI_clamp (show i < 2 ^ 31 by omega), nI_clamp (show j < 2 ^ 31 by omega), h33])
        · refine lv_iconst (v := px_b false) hx hb dX1_join_36 (by decide +kernel) ?_
          exact px_rz hx hb hr hlk rfl dX1_join_37
set_option maxHeartbeats 4000000 in
set_option maxRecDepth 100000 in
theorem tX1_give {l : Launch} {D : va_G} {cI cJ cZ : ClassId} {bd : Nat → Nat} {n k : Nat} {gv : Int32} {PA C Wi CO RW IN : Nat → Int32} (J : Nat → Nat → Bool) (hJ : ∀ a b, a < 200 → b < 200 → PA (200 * a + b) = px_b (J a b)) (cst ws : Nat → Nat) (hn : n ≤ 200) (hk : k ≤ 30) (hC : ∀ a, a < 200 → C a = nI (cst a)) (hc1 : ∀ a, cst a ≤ 1000000) (hwn : ∀ a, a < n → ws a < n) (hW : ∀ a, a < n → Wi a = nI (ws a)) : WrI l yX1_give wsX1_give (rmd 2) D (tyq cI cJ cZ) [.ref (bd 0)] (w1 cI cZ bd (nI n) (nI k) gv PA C Wi CO RW IN) (S := (Nat → Int32) × (Nat → Int32) × (Nat → Int32)) (fun r u => r = nI (pm_nn J n k cst ws n) ∧ (∀ a, a < n → u.1 a = pm_cs J n k cst ws n a) ∧ ∀ i, i < n → u.2.1 i = nI (pm_od J n k cst i)) (fun u => w1 cI cZ bd (nI n) (nI k) (px_b true) PA C Wi u.1 u.2.1 u.2.2) := by
  refine px_met (cc := cX1_give) (maxL := 3) (ret := (some .int)) (lv := [(0, .ref (bd 0))]) (by decide +kernel) rfl (Nat.le_of_ble_eq_true rfl) rfl ?_
  intro p e s m below meth c ls S hr hlk hnm hv hl
  obtain ⟨hx, hb, hml, hown, hts⟩ := id S
  obtain ⟨hP, hK, hD⟩ := hv
  have hin : ∀ w ∈ wsX10, w ∈ wsX1_give := fun w h => List.mem_cons_of_mem _ (List.mem_append_right _ h)
  have f34 := hts (.fieldLink RX1 34 "PointColoursModel" "n" "I") (by decide +kernel)
  have f27 := hts (.fieldLink RX1 27 "PointColoursModel" "in" "[Z") (by decide +kernel)
  have f21 := hts (.fieldLink RX1 21 "PointColoursModel" "colours" "[I") (by decide +kernel)
  have f24 := hts (.fieldLink RX1 24 "PointColoursModel" "row" "[I") (by decide +kernel)
  have f41 := hts (.fieldLink RX1 41 "PointColoursModel" "given" "Z") (by decide +kernel)
  have hS : va_S (px_B (w1 cI cZ bd (nI n) (nI k) gv PA C Wi CO RW IN)) s.heap s.heap [] := va_S.rf
  generalize hA : px_B (w1 cI cZ bd (nI n) (nI k) gv PA C Wi CO RW IN) = A at hD hS ⊢
  have third : ∀ (P B : Nat → Int32), (∀ i, i < n → P i = nI (pm_od J n k cst i)) → ∀ (j : Nat), j ≤ n → ∀ (K : Nat → Int32) (H : Heap) (locs : List Loc), (∀ a, a < n → K a = pm_cs J n k cst ws (n - j) a) → va_P D vwCl (w1 cI cZ bd (nI n) (nI k) gv PA C Wi K P B) H → va_D A (w1 cI cZ bd (nI n) (nI k) gv PA C Wi K P B) → va_S A s.heap H locs → ∀ ls : Array Slot, lv_has ls 3 [(1, .int (nI (pm_nn J n k cst ws (n - j)))), (2, .int (nI j - 1)), (0, .ref (bd 0))] → W p l e (rmd 2) s m ([.ref (bd 0)] : List Value).toArray below meth c H locs 0 0 (MQ below (va_Qi (S := (Nat → Int32) × (Nat → Int32) × (Nat → Int32)) (fun r u => r = nI (pm_nn J n k cst ws n) ∧ (∀ a, a < n → u.1 a = pm_cs J n k cst ws n a) ∧ ∀ i, i < n → u.2.1 i = nI (pm_od J n k cst i)) (fun u t => va_P D vwCl ((fun u => w1 cI cZ bd (nI n) (nI k) (px_b true) PA C Wi u.1 u.2.1 u.2.2) u) t.heap) A) ([.ref (bd 0)] : List Value).toArray s 0 0 A) (F0 m 77 ls []) := by
    intro P B hO j
    induction j with
    | zero =>
      intro h1 K H locs hKc hP hD hS ls hl
      refine lv_iload_n hx hb dX1_give_77 rfl (lv_at hl 1 rfl) ?_
      refine lv_if_lt (tgt := 125) hx hb dX1_give_78 (by decide) (fun h78 => ?_) (fun h78 => ?_)
      rotate_left
      · exact absurd (by decide +kernel) h78
      refine lv_aload_n hx hb dX1_give_125 rfl (lv_at hl 2 rfl) ?_
      refine lv_iconst (v := px_b true) hx hb dX1_give_126 (by decide +kernel) ?_
      refine px_put (ty := .boolean) (ws' := w1 cI cZ bd (nI n) (nI k) (px_b true) PA C Wi K P B) hx hb hts hin tyX1 tyX1_ok nmX1 hown hK hP hD hS 0 rfl rfl 8 (by decide) f41 (fun _ h9 => h9) rfl (by decide +kernel) (px_b_nar _) (px_b_fit _) (Nat.le_of_ble_eq_true rfl) rfl dX1_give_127 (fun H locs hP hD hS => ?_)
      refine lv_iload_n hx hb dX1_give_130 rfl (lv_at hl 0 rfl) ?_
      exact px_ei (σ := (Nat → Int32) × (Nat → Int32) × (Nat → Int32)) (post := fun r u => r = nI (pm_nn J n k cst ws n) ∧ (∀ a, a < n → u.1 a = pm_cs J n k cst ws n a) ∧ ∀ i, i < n → u.2.1 i = nI (pm_od J n k cst i)) (wf := fun u => w1 cI cZ bd (nI n) (nI k) (px_b true) PA C Wi u.1 u.2.1 u.2.2) hx hb hr hlk hS (K, P, B) ⟨rfl, fun a ha => hKc a ha, hO⟩ hP dX1_give_131
    | succ i ih =>
      intro h1 K H locs hKc hP hD hS ls hl
      have hl : lv_has ls 3 [(1, .int (nI (pm_nn J n k cst ws (n - (i + 1))))), (2, .int (nI i)), (0, .ref (bd 0))] := by rw [nI_pred] at hl; exact hl
      obtain ⟨ho1, ho2, ho3⟩ := pm_od_ok (J := J) (k := k) (cst := cst) (show i < n by omega)
      refine lv_iload_n hx hb dX1_give_77 rfl (lv_at hl 1 rfl) ?_
      refine lv_if_lt (tgt := 125) hx hb dX1_give_78 (by decide) (fun h78 => ?_) (fun h78 => ?_)
      · exact absurd h78 (nI_pos (by omega))
      refine lv_aload_n hx hb dX1_give_81 rfl (lv_at hl 2 rfl) ?_
      refine va_get (D := D) (ci := 1) (v := .ref (bd 4)) (C := RX1) (T := TX1) (N := 9) hx hb hts hin hown hK hP 0 rfl rfl 3 (by decide) f21 (fun _ h9 => h9) rfl dX1_give_82 ?_
      refine lv_aload_n hx hb dX1_give_85 rfl (lv_at hl 2 rfl) ?_
      refine va_get (D := D) (ci := 1) (v := .ref (bd 5)) (C := RX1) (T := TX1) (N := 9) hx hb hts hin hown hK hP 0 rfl rfl 4 (by decide) f24 (fun _ h9 => h9) rfl dX1_give_86 ?_
      refine lv_iload_n hx hb dX1_give_89 rfl (lv_at hl 1 rfl) ?_
      refine px_iald (n := 200) (i := i) hx hb hK hP 5 0 rfl rfl (by omega) (by decide) dX1_give_90 ?_
      refine px_top (y := nI (pm_od J n k cst i)) (hO i (by omega)) ?_
      refine lv_aload_n hx hb dX1_give_91 rfl (lv_at hl 2 rfl) ?_
      refine lv_aload_n hx hb dX1_give_92 rfl (lv_at hl 2 rfl) ?_
      refine va_get (D := D) (ci := 1) (v := .ref (bd 5)) (C := RX1) (T := TX1) (N := 9) hx hb hts hin hown hK hP 0 rfl rfl 4 (by decide) f24 (fun _ h9 => h9) rfl dX1_give_93 ?_
      refine lv_iload_n hx hb dX1_give_96 rfl (lv_at hl 1 rfl) ?_
      refine px_iald (n := 200) (i := i) hx hb hK hP 5 0 rfl rfl (by omega) (by decide) dX1_give_97 ?_
      refine px_top (y := nI (pm_od J n k cst i)) (hO i (by omega)) ?_
      refine px_rd (ci := 1) (q := (RX1, TX1, 9)) (v := pm_ch J n k ws K (pm_od J n k cst i)) (rest := [.int (nI (pm_od J n k cst i)), .ref (bd 4)]) S hP hK (tX1_colourFor J hJ ws hn hk (pm_od J n k cst i) ho2 (hwn _ ho2) (hW _ ho2)) (cwV 1 hts gX1_give_X1_colourFor rfl rfl rfl (by decide +kernel) ⟨by decide, by decide⟩) rfl rfl rfl hl.1 rfl (Nat.le_of_ble_eq_true rfl) dX1_give_98 ⟨Nat.zero_le _, Nat.zero_le _⟩ ?_
      refine px_top (y := pm_ch J n k ws (pm_cs J n k cst ws (n - (i + 1))) (pm_od J n k cst i)) (pm_ch_congr (hwn _ ho2) hKc) ?_
      refine px_iast (n := 200) (i := (pm_od J n k cst i)) (ws' := w1 cI cZ bd (nI n) (nI k) gv PA C Wi (upd K (pm_od J n k cst i) (pm_ch J n k ws (pm_cs J n k cst ws (n - (i + 1))) (pm_od J n k cst i))) P B) hx hb hK hP hD hS 4 0 rfl rfl (by omega) (by decide) rfl dX1_give_101 (fun H locs hP hD hS => ?_)
      refine lv_aload_n hx hb dX1_give_102 rfl (lv_at hl 2 rfl) ?_
      refine va_get (D := D) (ci := 1) (v := .ref (bd 4)) (C := RX1) (T := TX1) (N := 9) hx hb hts hin hown hK hP 0 rfl rfl 3 (by decide) f21 (fun _ h9 => h9) rfl dX1_give_103 ?_
      refine lv_aload_n hx hb dX1_give_106 rfl (lv_at hl 2 rfl) ?_
      refine va_get (D := D) (ci := 1) (v := .ref (bd 5)) (C := RX1) (T := TX1) (N := 9) hx hb hts hin hown hK hP 0 rfl rfl 4 (by decide) f24 (fun _ h9 => h9) rfl dX1_give_107 ?_
      refine lv_iload_n hx hb dX1_give_110 rfl (lv_at hl 1 rfl) ?_
      refine px_iald (n := 200) (i := i) hx hb hK hP 5 0 rfl rfl (by omega) (by decide) dX1_give_111 ?_
      refine px_top (y := nI (pm_od J n k cst i)) (hO i (by omega)) ?_
      refine px_iald (n := 200) (i := (pm_od J n k cst i)) hx hb hK hP 4 0 rfl rfl (by omega) (by decide) dX1_give_112 ?_
      refine px_top (y := pm_ch J n k ws (pm_cs J n k cst ws (n - (i + 1))) (pm_od J n k cst i)) (pk_us) ?_
      refine lv_if_ge (tgt := 119) hx hb dX1_give_113 (by decide) (fun h113 => ?_) (fun h113 => ?_)
      · have h113 := Int32.not_lt.mpr h113
        refine lv_iinc (v := nI i - 1) (lv' := [(2, .int (nI i - 1)), (1, .int (nI (pm_nn J n k cst ws (n - (i + 1))))), (0, .ref (bd 0))]) hx hb dX1_give_119 hl (k := 1) rfl (px_dec _) (by decide) rfl (fun ls hl => ?_)
        refine lv_goto (tgt := 77) hx hb dX1_give_122 (by decide) ?_
        exact ih (by omega) _ H locs (fun a ha => by
          rw [pm_cs_s (i := i) (by omega)]
          by_cases z : a = pm_od J n k cst i
          · rw [z, pk_us, pk_us]
          · rw [pk_un z, pk_un z]; exact hKc a ha) hP hD hS ls (by rw [pm_nn_s (i := i) (by omega), if_neg h113]; exact lv_sub hl [1, 0, 2] rfl)
      · have h113 := Int32.not_le.mp h113
        refine lv_iinc (v := nI (pm_nn J n k cst ws (n - (i + 1)) + 1)) (lv' := [(1, .int (nI (pm_nn J n k cst ws (n - (i + 1)) + 1))), (2, .int (nI i)), (0, .ref (bd 0))]) hx hb dX1_give_116 hl (k := 0) rfl (px_inc1 _) (by decide) rfl (fun ls hl => ?_)
        refine lv_iinc (v := nI i - 1) (lv' := [(2, .int (nI i - 1)), (1, .int (nI (pm_nn J n k cst ws (n - (i + 1)) + 1))), (0, .ref (bd 0))]) hx hb dX1_give_119 hl (k := 1) rfl (px_dec _) (by decide) rfl (fun ls hl => ?_)
        refine lv_goto (tgt := 77) hx hb dX1_give_122 (by decide) ?_
        exact ih (by omega) _ H locs (fun a ha => by
          rw [pm_cs_s (i := i) (by omega)]
          by_cases z : a = pm_od J n k cst i
          · rw [z, pk_us, pk_us]
          · rw [pk_un z, pk_un z]; exact hKc a ha) hP hD hS ls (by rw [pm_nn_s (i := i) (by omega), if_pos h113]; exact lv_sub hl [1, 0, 2] rfl)
  have second : ∀ (K : Nat → Int32), (∀ a, a < n → K a = -1) → ∀ (f i : Nat) (P B : Nat → Int32) (H : Heap) (locs : List Loc), n + 1 ≤ i + f → i ≤ n → (∀ j, j < i → P j = nI (pm_od J n k cst j)) → (∀ a, a < n → B a = px_b (pm_in J n k cst i a)) → va_P D vwCl (w1 cI cZ bd (nI n) (nI k) gv PA C Wi K P B) H → va_D A (w1 cI cZ bd (nI n) (nI k) gv PA C Wi K P B) → va_S A s.heap H locs → ∀ ls : Array Slot, lv_has ls 3 [(1, .int (nI i)), (0, .ref (bd 0))] → W p l e (rmd 2) s m ([.ref (bd 0)] : List Value).toArray below meth c H locs 0 0 (MQ below (va_Qi (S := (Nat → Int32) × (Nat → Int32) × (Nat → Int32)) (fun r u => r = nI (pm_nn J n k cst ws n) ∧ (∀ a, a < n → u.1 a = pm_cs J n k cst ws n a) ∧ ∀ i, i < n → u.2.1 i = nI (pm_od J n k cst i)) (fun u t => va_P D vwCl ((fun u => w1 cI cZ bd (nI n) (nI k) (px_b true) PA C Wi u.1 u.2.1 u.2.2) u) t.heap) A) ([.ref (bd 0)] : List Value).toArray s 0 0 A) (F0 m 32 ls []) := by
    intro K hKm f
    induction f with
    | zero => intro i P B H locs h1 h2; exact absurd h1 (by omega)
    | succ f ih =>
      intro i P B H locs h1 h2 hO hB hP hD hS ls hl
      refine lv_iload_n hx hb dX1_give_32 rfl (lv_at hl 0 rfl) ?_
      refine lv_aload_n hx hb dX1_give_33 rfl (lv_at hl 1 rfl) ?_
      refine va_get (D := D) (ci := 1) (v := .int (nI n)) (C := RX1) (T := TX1) (N := 9) hx hb hts hin hown hK hP 0 rfl rfl 6 (by decide) f34 (fun _ h9 => h9) rfl dX1_give_34 ?_
      refine px_ge (tgt := 68) hx hb dX1_give_37 (by decide) (by omega) (by omega) (fun h37 => ?_) (fun h37 => ?_)
      · refine lv_iconst (v := nI 0) hx hb dX1_give_68 (by decide +kernel) ?_
        refine lv_istore_n (lv' := [(1, .int (nI 0)), (0, .ref (bd 0))]) hx hb dX1_give_69 rfl hl (by decide) rfl (fun ls hl => ?_)
        refine lv_aload_n hx hb dX1_give_70 rfl (lv_at hl 1 rfl) ?_
        refine va_get (D := D) (ci := 1) (v := .int (nI n)) (C := RX1) (T := TX1) (N := 9) hx hb hts hin hown hK hP 0 rfl rfl 6 (by decide) f34 (fun _ h9 => h9) rfl dX1_give_71 ?_
        refine lv_iconst (v := nI 1) hx hb dX1_give_74 (by decide +kernel) ?_
        refine lv_isub hx hb dX1_give_75 ?_
        refine lv_istore_n (lv' := [(2, .int ((nI n) - (nI 1))), (1, .int (nI 0)), (0, .ref (bd 0))]) hx hb dX1_give_76 rfl hl (by decide) rfl (fun ls hl => ?_)
        exact third P B (fun j hj => hO j (by omega)) n (by omega) K H locs (fun a ha => by rw [Nat.sub_self]; exact hKm a ha) hP hD hS ls (by rw [Nat.sub_self]; exact lv_sub hl [1, 0, 2] rfl)
      · obtain ⟨ho1, ho2, ho3⟩ := pm_od_ok (J := J) (k := k) (cst := cst) h37
        refine lv_aload_n hx hb dX1_give_40 rfl (lv_at hl 1 rfl) ?_
        refine va_get (D := D) (ci := 1) (v := .ref (bd 5)) (C := RX1) (T := TX1) (N := 9) hx hb hts hin hown hK hP 0 rfl rfl 4 (by decide) f24 (fun _ h9 => h9) rfl dX1_give_41 ?_
        refine lv_iload_n hx hb dX1_give_44 rfl (lv_at hl 0 rfl) ?_
        refine lv_aload_n hx hb dX1_give_45 rfl (lv_at hl 1 rfl) ?_
        refine px_rd (ci := 1) (q := (RX1, TX1, 9)) (v := pm_o (pm_nx J n k cst (pm_in J n k cst i))) (rest := [.int (nI i), .ref (bd 5)]) S hP hK (tX1_next J hJ cst (pm_in J n k cst i) hn hB hk hC hc1) (cwV 0 hts gX1_give_X1_next rfl rfl rfl (by decide +kernel) ⟨by decide, by decide⟩) rfl rfl rfl hl.1 rfl (Nat.le_of_ble_eq_true rfl) dX1_give_46 ⟨Nat.zero_le _, Nat.zero_le _⟩ ?_
        refine px_top (y := nI (pm_od J n k cst i)) (by rw [ho1]; rfl) ?_
        refine px_iast (n := 200) (i := i) (ws' := w1 cI cZ bd (nI n) (nI k) gv PA C Wi K (upd P i (nI (pm_od J n k cst i))) B) hx hb hK hP hD hS 5 0 rfl rfl (by omega) (by decide) rfl dX1_give_49 (fun H locs hP hD hS => ?_)
        refine lv_aload_n hx hb dX1_give_50 rfl (lv_at hl 1 rfl) ?_
        refine va_get (D := D) (ci := 1) (v := .ref (bd 6)) (C := RX1) (T := TX1) (N := 9) hx hb hts hin hown hK hP 0 rfl rfl 5 (by decide) f27 (fun _ h9 => h9) rfl dX1_give_51 ?_
        refine lv_aload_n hx hb dX1_give_54 rfl (lv_at hl 1 rfl) ?_
        refine va_get (D := D) (ci := 1) (v := .ref (bd 5)) (C := RX1) (T := TX1) (N := 9) hx hb hts hin hown hK hP 0 rfl rfl 4 (by decide) f24 (fun _ h9 => h9) rfl dX1_give_55 ?_
        refine lv_iload_n hx hb dX1_give_58 rfl (lv_at hl 0 rfl) ?_
        refine px_iald (n := 200) (i := i) hx hb hK hP 5 0 rfl rfl (by omega) (by decide) dX1_give_59 ?_
        refine px_top (y := nI (pm_od J n k cst i)) (pk_us) ?_
        refine lv_iconst (v := px_b false) hx hb dX1_give_60 (by decide +kernel) ?_
        refine px_zast (x := false) (n := 200) (i := (pm_od J n k cst i)) (ws' := w1 cI cZ bd (nI n) (nI k) gv PA C Wi K (upd P i (nI (pm_od J n k cst i))) (upd B (pm_od J n k cst i) (px_b false))) hx hb hK hP hD hS 6 2 rfl rfl (by omega) (by decide) rfl dX1_give_61 (fun H locs hP hD hS => ?_)
        refine lv_iinc (v := nI (i + 1)) (lv' := [(1, .int (nI (i + 1))), (0, .ref (bd 0))]) hx hb dX1_give_62 hl (k := 0) rfl (px_inc1 _) (by decide) rfl (fun ls hl => ?_)
        refine lv_goto (tgt := 32) hx hb dX1_give_65 (by decide) ?_
        exact ih (i + 1) _ _ H locs (by omega) (by omega) (fun j hj => by
          by_cases z : j = i
          · rw [z, pk_us]
          · rw [pk_un z]; exact hO j (by omega)) (fun a ha => by
          rw [pm_in_s h37]
          by_cases z : a = pm_od J n k cst i
          · rw [z, pk_us]; simp
          · rw [pk_un z, hB a ha]; simp [z]) hP hD hS ls (lv_sub hl [0, 1] rfl)
  have first : ∀ (f i : Nat) (K B : Nat → Int32) (H : Heap) (locs : List Loc), n + 1 ≤ i + f → i ≤ n → (∀ j, j < i → B j = px_b true ∧ K j = -1) → va_P D vwCl (w1 cI cZ bd (nI n) (nI k) gv PA C Wi K RW B) H → va_D A (w1 cI cZ bd (nI n) (nI k) gv PA C Wi K RW B) → va_S A s.heap H locs → ∀ ls : Array Slot, lv_has ls 3 [(1, .int (nI i)), (0, .ref (bd 0))] → W p l e (rmd 2) s m ([.ref (bd 0)] : List Value).toArray below meth c H locs 0 0 (MQ below (va_Qi (S := (Nat → Int32) × (Nat → Int32) × (Nat → Int32)) (fun r u => r = nI (pm_nn J n k cst ws n) ∧ (∀ a, a < n → u.1 a = pm_cs J n k cst ws n a) ∧ ∀ i, i < n → u.2.1 i = nI (pm_od J n k cst i)) (fun u t => va_P D vwCl ((fun u => w1 cI cZ bd (nI n) (nI k) (px_b true) PA C Wi u.1 u.2.1 u.2.2) u) t.heap) A) ([.ref (bd 0)] : List Value).toArray s 0 0 A) (F0 m 2 ls []) := by
    intro f
    induction f with
    | zero => intro i K B H locs h1 h2; exact absurd h1 (by omega)
    | succ f ih =>
      intro i K B H locs h1 h2 hI hP hD hS ls hl
      refine lv_iload_n hx hb dX1_give_2 rfl (lv_at hl 0 rfl) ?_
      refine lv_aload_n hx hb dX1_give_3 rfl (lv_at hl 1 rfl) ?_
      refine va_get (D := D) (ci := 1) (v := .int (nI n)) (C := RX1) (T := TX1) (N := 9) hx hb hts hin hown hK hP 0 rfl rfl 6 (by decide) f34 (fun _ h9 => h9) rfl dX1_give_4 ?_
      refine px_ge (tgt := 30) hx hb dX1_give_7 (by decide) (by omega) (by omega) (fun h7 => ?_) (fun h7 => ?_)
      · refine lv_iconst (v := nI 0) hx hb dX1_give_30 (by decide +kernel) ?_
        refine lv_istore_n (lv' := [(1, .int (nI 0)), (0, .ref (bd 0))]) hx hb dX1_give_31 rfl hl (by decide) rfl (fun ls hl => ?_)
        exact second K (fun a ha => (hI a (by omega)).2) (n + 1) 0 RW B H locs (by omega) (by omega) (fun j hj => absurd hj (by omega)) (fun a ha => (hI a (by omega)).1) hP hD hS ls (lv_sub hl [0, 1] rfl)
      · refine lv_aload_n hx hb dX1_give_10 rfl (lv_at hl 1 rfl) ?_
        refine va_get (D := D) (ci := 1) (v := .ref (bd 6)) (C := RX1) (T := TX1) (N := 9) hx hb hts hin hown hK hP 0 rfl rfl 5 (by decide) f27 (fun _ h9 => h9) rfl dX1_give_11 ?_
        refine lv_iload_n hx hb dX1_give_14 rfl (lv_at hl 0 rfl) ?_
        refine lv_iconst (v := px_b true) hx hb dX1_give_15 (by decide +kernel) ?_
        refine px_zast (x := true) (n := 200) (i := i) (ws' := w1 cI cZ bd (nI n) (nI k) gv PA C Wi K RW (upd B i (px_b true))) hx hb hK hP hD hS 6 2 rfl rfl (by omega) (by decide) rfl dX1_give_16 (fun H locs hP hD hS => ?_)
        refine lv_aload_n hx hb dX1_give_17 rfl (lv_at hl 1 rfl) ?_
        refine va_get (D := D) (ci := 1) (v := .ref (bd 4)) (C := RX1) (T := TX1) (N := 9) hx hb hts hin hown hK hP 0 rfl rfl 3 (by decide) f21 (fun _ h9 => h9) rfl dX1_give_18 ?_
        refine lv_iload_n hx hb dX1_give_21 rfl (lv_at hl 0 rfl) ?_
        refine lv_iconst (v := -1) hx hb dX1_give_22 (by decide +kernel) ?_
        refine px_iast (n := 200) (i := i) (ws' := w1 cI cZ bd (nI n) (nI k) gv PA C Wi (upd K i (-1)) RW (upd B i (px_b true))) hx hb hK hP hD hS 4 0 rfl rfl (by omega) (by decide) rfl dX1_give_23 (fun H locs hP hD hS => ?_)
        refine lv_iinc (v := nI (i + 1)) (lv' := [(1, .int (nI (i + 1))), (0, .ref (bd 0))]) hx hb dX1_give_24 hl (k := 0) rfl (px_inc1 _) (by decide) rfl (fun ls hl => ?_)
        refine lv_goto (tgt := 2) hx hb dX1_give_27 (by decide) ?_
        exact ih (i + 1) _ _ H locs (by omega) (by omega) (fun j hj => by
          by_cases z : j = i
          · subst z; exact ⟨pk_us, pk_us⟩
          · rw [pk_un z, pk_un z]; exact hI j (by omega)) hP hD hS ls (lv_sub hl [0, 1] rfl)
  refine lv_iconst (v := nI 0) hx hb dX1_give_0 (by decide +kernel) ?_
  refine lv_istore_n (lv' := [(1, .int (nI 0)), (0, .ref (bd 0))]) hx hb dX1_give_1 rfl hl (by decide) rfl (fun ls hl => ?_)
  exact first (n + 1) 0 CO IN s.heap [] (by omega) (by omega) (fun j hj => absurd hj (by omega)) hP hD hS ls (lv_sub hl [0, 1] rfl)
end
section
section PN
variable {p : Program} {l : Launch} {e : Env} {R : Room} {s : State} {m : MethodId} {args : Array Value} {below : List Frame} {meth : Method} {c : Code} {H : Heap} {locs : List Loc} {cells slots : Nat} {Q : State → Prop}
variable {cc : ByteArray} {pc : Nat} {ls : Array Slot} {rest : List Value} {D : va_G} {cl : List vw_C} {A : Nat → Prop} {tys : List (ClassId × FieldType)} {ws : va_W} {H0 : Heap}
theorem px_newa (hx : p.tables.exec = Jvm.exec) (hb : c.code = cc) {atype : ArrayType} (harr : (Cond.arrayClass (newarray.typeOf atype)).before args s = true) {ty : FieldType} (hty : newarray.typeOf atype = ty) {cA : ClassId} (t0 : Nat) (ht : tys[t0]? = some (cA, ty)) (hu : ∀ x y : ClassId, va_RA s x ty → va_RA s y ty → x = y) (hK : va_K D cl tys s) (hP : va_P D cl ws H) (hD : va_D A ws) (hS : va_S A H0 H locs) (hA : ∀ q, H0.size ≤ q → A q)
    {n : Int32} {N' : Nat} {a0 : vp_A} (ha : ∀ cA : ClassId, vp_cell cA a0 = arrV cA N' (fun _ => defaultValue ty)) (hn : ¬ n < 0) (hN : n.toNatClampNeg = N') (hbytes : N' * componentBytes ty ≤ 536870912) (hcells : cells + 1 ≤ R.cells) (hslots : slots + N' ≤ R.slots) (hdg : decode cc pc = .ok (.newarray atype, 2))
    (kk : ∀ (q : Nat) (H1 : Heap), va_P D cl (ws ++ [(q, .inl (cA, a0))]) H1 → va_D A (ws ++ [(q, .inl (cA, a0))]) → va_S A H0 H1 locs →
      W p l e R s m args below meth c H1 locs (cells + 1) (slots + N') Q (F0 m (pc + 2) ls (.ref q :: rest))) : W p l e R s m args below meth c H locs cells slots Q (F0 m pc ls (.int n :: rest)) := by
  refine va_newa hx hb harr hty hK hP hD hS hA ha hn hN hbytes hcells hslots hdg (fun q cB H1 hK1 hP1 hD1 hS1 => ?_)
  have h1 : (tys ++ [(cB, ty)])[tys.length]? = some (cB, ty) := by simp
  obtain rfl : cB = cA := hu _ _ (hK1.2 _ _ h1).2 (hK.2 _ _ ht).2
  exact kk q H1 hP1 hD1 hS1
end PN
theorem px_uI {s : State} (x y : ClassId) (h1 : va_RA s x .int) (h2 : va_RA s y .int) : x = y := Option.some.inj ((va_nm_int h1).symm.trans (va_nm_int h2))
theorem px_uJ {s : State} (x y : ClassId) (h1 : va_RA s x .long) (h2 : va_RA s y .long) : x = y := Option.some.inj ((va_nm_long h1).symm.trans (va_nm_long h2))
theorem px_uZ {s : State} (x y : ClassId) (h1 : va_RA s x .boolean) (h2 : va_RA s y .boolean) : x = y := Option.some.inj ((va_nm_boolean h1).symm.trans (va_nm_boolean h2))
set_option maxHeartbeats 4000000 in
set_option maxRecDepth 100000 in
theorem tX0_init (l : Launch) (D : va_G) (cI cJ cZ : ClassId) (h0 sz : Nat) : Met l yX0_init wsX0_init { frames := 2, cells := 8, slots := 2200, locals := 60 } (va_Pc [.ref h0] (fun U => U.heap.size = sz ∧ va_P D vwCl [(h0, .inr (0, [.int 0, .int 0, .int 0, .null, .null, .null, .null, .null, .null, .null, .null]))] U.heap ∧ va_K D vwCl (tyq cI cJ cZ) U ∧ va_D (fun _ => True) [(h0, .inr (0, [.int 0, .int 0, .int 0, .null, .null, .null, .null, .null, .null, .null, .null]))])) (va_Qv (fun ad : Nat → Nat => ad 0 = h0) (fun ad t => va_P D vwCl (w0 cI cJ cZ ad (nI 1) (nI 1) (px_b false) (fun _ => 0) (fun _ => nI 0) (fun _ => nI 0) (fun _ => -1) (fun _ => 0) (fun _ => 0) (fun _ => 0) (fun _ => 0)) t.heap ∧ va_D (va_A [(h0, .inr (0, [.int 0, .int 0, .int 0, .null, .null, .null, .null, .null, .null, .null, .null]))] sz) (w0 cI cJ cZ ad (nI 1) (nI 1) (px_b false) (fun _ => 0) (fun _ => nI 0) (fun _ => nI 0) (fun _ => -1) (fun _ => 0) (fun _ => 0) (fun _ => 0) (fun _ => 0))) (va_A [(h0, .inr (0, [.int 0, .int 0, .int 0, .null, .null, .null, .null, .null, .null, .null, .null]))] sz)) 8 2200 (va_A [(h0, .inr (0, [.int 0, .int 0, .int 0, .null, .null, .null, .null, .null, .null, .null, .null]))] sz) := by
  refine px_met (cc := cX0_init) (maxL := 1) (ret := none) (lv := [(0, .ref h0)]) (by decide +kernel) rfl (Nat.le_of_ble_eq_true rfl) rfl ?_
  intro p e s m below meth c ls S hr hlk hnm hv hl
  obtain ⟨hx, hb, hml, hown, hts⟩ := id S
  obtain ⟨hsz, hP, hK, hD0⟩ := hv
  have hin : ∀ w ∈ wsX00, w ∈ wsX0_init := fun w h => List.mem_cons_of_mem _ (List.mem_append_right _ h)
  have f9 := hts (.fieldLink RX0 9 "PointColours" "edges" "[J") (by decide +kernel)
  have f13 := hts (.fieldLink RX0 13 "PointColours" "degrees" "[I") (by decide +kernel)
  have f17 := hts (.fieldLink RX0 17 "PointColours" "costs" "[I") (by decide +kernel)
  have f20 := hts (.fieldLink RX0 20 "PointColours" "wishes" "[I") (by decide +kernel)
  have f23 := hts (.fieldLink RX0 23 "PointColours" "order" "[I") (by decide +kernel)
  have f26 := hts (.fieldLink RX0 26 "PointColours" "isOut" "[Z") (by decide +kernel)
  have f30 := hts (.fieldLink RX0 30 "PointColours" "neighboursIn" "[I") (by decide +kernel)
  have f33 := hts (.fieldLink RX0 33 "PointColours" "colourOf" "[I") (by decide +kernel)
  subst hsz
  have hD := hD0.self (sz := s.heap.size)
  generalize hAe : va_A [(h0, .inr (0, [.int 0, .int 0, .int 0, .null, .null, .null, .null, .null, .null, .null, .null]))] s.heap.size = A at hD ⊢
  have hA : ∀ q : Nat, s.heap.size ≤ q → A q := fun q h => by rw [← hAe]; exact Or.inr h
  have hS : va_S A s.heap s.heap [] := va_S.rf
  refine lv_aload_n hx hb dX0_init_0 rfl (lv_at hl 0 rfl) ?_
  refine W.objInit hx hb hown (hts (.methodLink RX0 3 objectInit) (by decide +kernel)) (hts (.instanceMethod objectInit) (by decide +kernel)) (hts _ (List.mem_cons_of_mem _ (List.mem_append_left _ (List.mem_append_left _ (List.mem_of_getElem? (i := 2) rfl))))) rfl (by rw [hml]; exact hl.1) rfl dX0_init_1 (Nat.le_of_ble_eq_true rfl) (Nat.le_of_ble_eq_true rfl) ?_
  refine W.eq (g2 := F0 m 4 ls []) rfl ?_
  refine lv_aload_n hx hb dX0_init_4 rfl (lv_at hl 0 rfl) ?_
  refine lv_sipush (v := 800) hx hb dX0_init_5 (by decide +kernel) ?_
  refine px_newa (atype := .long) (ty := .long) (a0 := (800, .inr (.inl (fun _ => 0)))) (N' := 800) hx hb (hts (.arrayClass .long) (by decide +kernel)) rfl 1 rfl px_uJ hK hP hD hS hA (fun _ => rfl) (by decide +kernel) (by decide +kernel) (by decide +kernel) (Nat.le_of_ble_eq_true rfl) (Nat.le_of_ble_eq_true rfl) dX0_init_8 (fun q1 H hP hD hS => ?_)
  have hP : va_P D vwCl [(h0, .inr (0, [.int 0, .int 0, .int 0, .null, .null, .null, .null, .null, .null, .null, .null])), (q1, .inl (cJ, 800, .inr (.inl (fun _ => 0))))] H := hP
  have hD : va_D A [(h0, .inr (0, [.int 0, .int 0, .int 0, .null, .null, .null, .null, .null, .null, .null, .null])), (q1, .inl (cJ, 800, .inr (.inl (fun _ => 0))))] := hD
  refine va_putF (D := D) (ci := 0) (v := .ref q1) (ty := .array .long) (C := RX0) (T := TX0) (N := 11) hx hb hts hin tyX0 tyX0_ok nmX0 hown hK hP hD hS 0 rfl rfl 3 (by decide) f9 (fun _ h9 => h9) rfl hnm rfl (by decide +kernel) rfl rfl (Nat.le_of_ble_eq_true rfl) dX0_init_10 (fun H locs hP hD hS => ?_)
  have hP : va_P D vwCl [(h0, .inr (0, [.int 0, .int 0, .int 0, .ref q1, .null, .null, .null, .null, .null, .null, .null])), (q1, .inl (cJ, 800, .inr (.inl (fun _ => 0))))] H := hP
  have hD : va_D A [(h0, .inr (0, [.int 0, .int 0, .int 0, .ref q1, .null, .null, .null, .null, .null, .null, .null])), (q1, .inl (cJ, 800, .inr (.inl (fun _ => 0))))] := hD
  refine lv_aload_n hx hb dX0_init_13 rfl (lv_at hl 0 rfl) ?_
  refine lv_sipush (v := 200) hx hb dX0_init_14 (by decide +kernel) ?_
  refine px_newa (atype := .int) (ty := .int) (a0 := (200, .inl (fun _ => 0))) (N' := 200) hx hb (hts (.arrayClass .int) (by decide +kernel)) rfl 0 rfl px_uI hK hP hD hS hA (fun _ => rfl) (by decide +kernel) (by decide +kernel) (by decide +kernel) (Nat.le_of_ble_eq_true rfl) (Nat.le_of_ble_eq_true rfl) dX0_init_17 (fun q2 H hP hD hS => ?_)
  have hP : va_P D vwCl [(h0, .inr (0, [.int 0, .int 0, .int 0, .ref q1, .null, .null, .null, .null, .null, .null, .null])), (q1, .inl (cJ, 800, .inr (.inl (fun _ => 0)))), (q2, .inl (cI, 200, .inl (fun _ => 0)))] H := hP
  have hD : va_D A [(h0, .inr (0, [.int 0, .int 0, .int 0, .ref q1, .null, .null, .null, .null, .null, .null, .null])), (q1, .inl (cJ, 800, .inr (.inl (fun _ => 0)))), (q2, .inl (cI, 200, .inl (fun _ => 0)))] := hD
  refine va_putF (D := D) (ci := 0) (v := .ref q2) (ty := .array .int) (C := RX0) (T := TX0) (N := 11) hx hb hts hin tyX0 tyX0_ok nmX0 hown hK hP hD hS 0 rfl rfl 4 (by decide) f13 (fun _ h9 => h9) rfl hnm rfl (by decide +kernel) rfl rfl (Nat.le_of_ble_eq_true rfl) dX0_init_19 (fun H locs hP hD hS => ?_)
  have hP : va_P D vwCl [(h0, .inr (0, [.int 0, .int 0, .int 0, .ref q1, .ref q2, .null, .null, .null, .null, .null, .null])), (q1, .inl (cJ, 800, .inr (.inl (fun _ => 0)))), (q2, .inl (cI, 200, .inl (fun _ => 0)))] H := hP
  have hD : va_D A [(h0, .inr (0, [.int 0, .int 0, .int 0, .ref q1, .ref q2, .null, .null, .null, .null, .null, .null])), (q1, .inl (cJ, 800, .inr (.inl (fun _ => 0)))), (q2, .inl (cI, 200, .inl (fun _ => 0)))] := hD
  refine lv_aload_n hx hb dX0_init_22 rfl (lv_at hl 0 rfl) ?_
  refine lv_sipush (v := 200) hx hb dX0_init_23 (by decide +kernel) ?_
  refine px_newa (atype := .int) (ty := .int) (a0 := (200, .inl (fun _ => 0))) (N' := 200) hx hb (hts (.arrayClass .int) (by decide +kernel)) rfl 0 rfl px_uI hK hP hD hS hA (fun _ => rfl) (by decide +kernel) (by decide +kernel) (by decide +kernel) (Nat.le_of_ble_eq_true rfl) (Nat.le_of_ble_eq_true rfl) dX0_init_26 (fun q3 H hP hD hS => ?_)
  have hP : va_P D vwCl [(h0, .inr (0, [.int 0, .int 0, .int 0, .ref q1, .ref q2, .null, .null, .null, .null, .null, .null])), (q1, .inl (cJ, 800, .inr (.inl (fun _ => 0)))), (q2, .inl (cI, 200, .inl (fun _ => 0))), (q3, .inl (cI, 200, .inl (fun _ => 0)))] H := hP
  have hD : va_D A [(h0, .inr (0, [.int 0, .int 0, .int 0, .ref q1, .ref q2, .null, .null, .null, .null, .null, .null])), (q1, .inl (cJ, 800, .inr (.inl (fun _ => 0)))), (q2, .inl (cI, 200, .inl (fun _ => 0))), (q3, .inl (cI, 200, .inl (fun _ => 0)))] := hD
  refine va_putF (D := D) (ci := 0) (v := .ref q3) (ty := .array .int) (C := RX0) (T := TX0) (N := 11) hx hb hts hin tyX0 tyX0_ok nmX0 hown hK hP hD hS 0 rfl rfl 5 (by decide) f17 (fun _ h9 => h9) rfl hnm rfl (by decide +kernel) rfl rfl (Nat.le_of_ble_eq_true rfl) dX0_init_28 (fun H locs hP hD hS => ?_)
  have hP : va_P D vwCl [(h0, .inr (0, [.int 0, .int 0, .int 0, .ref q1, .ref q2, .ref q3, .null, .null, .null, .null, .null])), (q1, .inl (cJ, 800, .inr (.inl (fun _ => 0)))), (q2, .inl (cI, 200, .inl (fun _ => 0))), (q3, .inl (cI, 200, .inl (fun _ => 0)))] H := hP
  have hD : va_D A [(h0, .inr (0, [.int 0, .int 0, .int 0, .ref q1, .ref q2, .ref q3, .null, .null, .null, .null, .null])), (q1, .inl (cJ, 800, .inr (.inl (fun _ => 0)))), (q2, .inl (cI, 200, .inl (fun _ => 0))), (q3, .inl (cI, 200, .inl (fun _ => 0)))] := hD
  refine lv_aload_n hx hb dX0_init_31 rfl (lv_at hl 0 rfl) ?_
  refine lv_sipush (v := 200) hx hb dX0_init_32 (by decide +kernel) ?_
  refine px_newa (atype := .int) (ty := .int) (a0 := (200, .inl (fun _ => 0))) (N' := 200) hx hb (hts (.arrayClass .int) (by decide +kernel)) rfl 0 rfl px_uI hK hP hD hS hA (fun _ => rfl) (by decide +kernel) (by decide +kernel) (by decide +kernel) (Nat.le_of_ble_eq_true rfl) (Nat.le_of_ble_eq_true rfl) dX0_init_35 (fun q4 H hP hD hS => ?_)
  have hP : va_P D vwCl [(h0, .inr (0, [.int 0, .int 0, .int 0, .ref q1, .ref q2, .ref q3, .null, .null, .null, .null, .null])), (q1, .inl (cJ, 800, .inr (.inl (fun _ => 0)))), (q2, .inl (cI, 200, .inl (fun _ => 0))), (q3, .inl (cI, 200, .inl (fun _ => 0))), (q4, .inl (cI, 200, .inl (fun _ => 0)))] H := hP
  have hD : va_D A [(h0, .inr (0, [.int 0, .int 0, .int 0, .ref q1, .ref q2, .ref q3, .null, .null, .null, .null, .null])), (q1, .inl (cJ, 800, .inr (.inl (fun _ => 0)))), (q2, .inl (cI, 200, .inl (fun _ => 0))), (q3, .inl (cI, 200, .inl (fun _ => 0))), (q4, .inl (cI, 200, .inl (fun _ => 0)))] := hD
  refine va_putF (D := D) (ci := 0) (v := .ref q4) (ty := .array .int) (C := RX0) (T := TX0) (N := 11) hx hb hts hin tyX0 tyX0_ok nmX0 hown hK hP hD hS 0 rfl rfl 6 (by decide) f20 (fun _ h9 => h9) rfl hnm rfl (by decide +kernel) rfl rfl (Nat.le_of_ble_eq_true rfl) dX0_init_37 (fun H locs hP hD hS => ?_)
  have hP : va_P D vwCl [(h0, .inr (0, [.int 0, .int 0, .int 0, .ref q1, .ref q2, .ref q3, .ref q4, .null, .null, .null, .null])), (q1, .inl (cJ, 800, .inr (.inl (fun _ => 0)))), (q2, .inl (cI, 200, .inl (fun _ => 0))), (q3, .inl (cI, 200, .inl (fun _ => 0))), (q4, .inl (cI, 200, .inl (fun _ => 0)))] H := hP
  have hD : va_D A [(h0, .inr (0, [.int 0, .int 0, .int 0, .ref q1, .ref q2, .ref q3, .ref q4, .null, .null, .null, .null])), (q1, .inl (cJ, 800, .inr (.inl (fun _ => 0)))), (q2, .inl (cI, 200, .inl (fun _ => 0))), (q3, .inl (cI, 200, .inl (fun _ => 0))), (q4, .inl (cI, 200, .inl (fun _ => 0)))] := hD
  refine lv_aload_n hx hb dX0_init_40 rfl (lv_at hl 0 rfl) ?_
  refine lv_sipush (v := 200) hx hb dX0_init_41 (by decide +kernel) ?_
  refine px_newa (atype := .int) (ty := .int) (a0 := (200, .inl (fun _ => 0))) (N' := 200) hx hb (hts (.arrayClass .int) (by decide +kernel)) rfl 0 rfl px_uI hK hP hD hS hA (fun _ => rfl) (by decide +kernel) (by decide +kernel) (by decide +kernel) (Nat.le_of_ble_eq_true rfl) (Nat.le_of_ble_eq_true rfl) dX0_init_44 (fun q5 H hP hD hS => ?_)
  have hP : va_P D vwCl [(h0, .inr (0, [.int 0, .int 0, .int 0, .ref q1, .ref q2, .ref q3, .ref q4, .null, .null, .null, .null])), (q1, .inl (cJ, 800, .inr (.inl (fun _ => 0)))), (q2, .inl (cI, 200, .inl (fun _ => 0))), (q3, .inl (cI, 200, .inl (fun _ => 0))), (q4, .inl (cI, 200, .inl (fun _ => 0))), (q5, .inl (cI, 200, .inl (fun _ => 0)))] H := hP
  have hD : va_D A [(h0, .inr (0, [.int 0, .int 0, .int 0, .ref q1, .ref q2, .ref q3, .ref q4, .null, .null, .null, .null])), (q1, .inl (cJ, 800, .inr (.inl (fun _ => 0)))), (q2, .inl (cI, 200, .inl (fun _ => 0))), (q3, .inl (cI, 200, .inl (fun _ => 0))), (q4, .inl (cI, 200, .inl (fun _ => 0))), (q5, .inl (cI, 200, .inl (fun _ => 0)))] := hD
  refine va_putF (D := D) (ci := 0) (v := .ref q5) (ty := .array .int) (C := RX0) (T := TX0) (N := 11) hx hb hts hin tyX0 tyX0_ok nmX0 hown hK hP hD hS 0 rfl rfl 7 (by decide) f23 (fun _ h9 => h9) rfl hnm rfl (by decide +kernel) rfl rfl (Nat.le_of_ble_eq_true rfl) dX0_init_46 (fun H locs hP hD hS => ?_)
  have hP : va_P D vwCl [(h0, .inr (0, [.int 0, .int 0, .int 0, .ref q1, .ref q2, .ref q3, .ref q4, .ref q5, .null, .null, .null])), (q1, .inl (cJ, 800, .inr (.inl (fun _ => 0)))), (q2, .inl (cI, 200, .inl (fun _ => 0))), (q3, .inl (cI, 200, .inl (fun _ => 0))), (q4, .inl (cI, 200, .inl (fun _ => 0))), (q5, .inl (cI, 200, .inl (fun _ => 0)))] H := hP
  have hD : va_D A [(h0, .inr (0, [.int 0, .int 0, .int 0, .ref q1, .ref q2, .ref q3, .ref q4, .ref q5, .null, .null, .null])), (q1, .inl (cJ, 800, .inr (.inl (fun _ => 0)))), (q2, .inl (cI, 200, .inl (fun _ => 0))), (q3, .inl (cI, 200, .inl (fun _ => 0))), (q4, .inl (cI, 200, .inl (fun _ => 0))), (q5, .inl (cI, 200, .inl (fun _ => 0)))] := hD
  refine lv_aload_n hx hb dX0_init_49 rfl (lv_at hl 0 rfl) ?_
  refine lv_sipush (v := 200) hx hb dX0_init_50 (by decide +kernel) ?_
  refine px_newa (atype := .boolean) (ty := .boolean) (a0 := (200, .inl (fun _ => 0))) (N' := 200) hx hb (hts (.arrayClass .boolean) (by decide +kernel)) rfl 2 rfl px_uZ hK hP hD hS hA (fun _ => rfl) (by decide +kernel) (by decide +kernel) (by decide +kernel) (Nat.le_of_ble_eq_true rfl) (Nat.le_of_ble_eq_true rfl) dX0_init_53 (fun q6 H hP hD hS => ?_)
  have hP : va_P D vwCl [(h0, .inr (0, [.int 0, .int 0, .int 0, .ref q1, .ref q2, .ref q3, .ref q4, .ref q5, .null, .null, .null])), (q1, .inl (cJ, 800, .inr (.inl (fun _ => 0)))), (q2, .inl (cI, 200, .inl (fun _ => 0))), (q3, .inl (cI, 200, .inl (fun _ => 0))), (q4, .inl (cI, 200, .inl (fun _ => 0))), (q5, .inl (cI, 200, .inl (fun _ => 0))), (q6, .inl (cZ, 200, .inl (fun _ => 0)))] H := hP
  have hD : va_D A [(h0, .inr (0, [.int 0, .int 0, .int 0, .ref q1, .ref q2, .ref q3, .ref q4, .ref q5, .null, .null, .null])), (q1, .inl (cJ, 800, .inr (.inl (fun _ => 0)))), (q2, .inl (cI, 200, .inl (fun _ => 0))), (q3, .inl (cI, 200, .inl (fun _ => 0))), (q4, .inl (cI, 200, .inl (fun _ => 0))), (q5, .inl (cI, 200, .inl (fun _ => 0))), (q6, .inl (cZ, 200, .inl (fun _ => 0)))] := hD
  refine va_putF (D := D) (ci := 0) (v := .ref q6) (ty := .array .boolean) (C := RX0) (T := TX0) (N := 11) hx hb hts hin tyX0 tyX0_ok nmX0 hown hK hP hD hS 0 rfl rfl 8 (by decide) f26 (fun _ h9 => h9) rfl hnm rfl (by decide +kernel) rfl rfl (Nat.le_of_ble_eq_true rfl) dX0_init_55 (fun H locs hP hD hS => ?_)
  have hP : va_P D vwCl [(h0, .inr (0, [.int 0, .int 0, .int 0, .ref q1, .ref q2, .ref q3, .ref q4, .ref q5, .ref q6, .null, .null])), (q1, .inl (cJ, 800, .inr (.inl (fun _ => 0)))), (q2, .inl (cI, 200, .inl (fun _ => 0))), (q3, .inl (cI, 200, .inl (fun _ => 0))), (q4, .inl (cI, 200, .inl (fun _ => 0))), (q5, .inl (cI, 200, .inl (fun _ => 0))), (q6, .inl (cZ, 200, .inl (fun _ => 0)))] H := hP
  have hD : va_D A [(h0, .inr (0, [.int 0, .int 0, .int 0, .ref q1, .ref q2, .ref q3, .ref q4, .ref q5, .ref q6, .null, .null])), (q1, .inl (cJ, 800, .inr (.inl (fun _ => 0)))), (q2, .inl (cI, 200, .inl (fun _ => 0))), (q3, .inl (cI, 200, .inl (fun _ => 0))), (q4, .inl (cI, 200, .inl (fun _ => 0))), (q5, .inl (cI, 200, .inl (fun _ => 0))), (q6, .inl (cZ, 200, .inl (fun _ => 0)))] := hD
  refine lv_aload_n hx hb dX0_init_58 rfl (lv_at hl 0 rfl) ?_
  refine lv_sipush (v := 200) hx hb dX0_init_59 (by decide +kernel) ?_
  refine px_newa (atype := .int) (ty := .int) (a0 := (200, .inl (fun _ => 0))) (N' := 200) hx hb (hts (.arrayClass .int) (by decide +kernel)) rfl 0 rfl px_uI hK hP hD hS hA (fun _ => rfl) (by decide +kernel) (by decide +kernel) (by decide +kernel) (Nat.le_of_ble_eq_true rfl) (Nat.le_of_ble_eq_true rfl) dX0_init_62 (fun q7 H hP hD hS => ?_)
  have hP : va_P D vwCl [(h0, .inr (0, [.int 0, .int 0, .int 0, .ref q1, .ref q2, .ref q3, .ref q4, .ref q5, .ref q6, .null, .null])), (q1, .inl (cJ, 800, .inr (.inl (fun _ => 0)))), (q2, .inl (cI, 200, .inl (fun _ => 0))), (q3, .inl (cI, 200, .inl (fun _ => 0))), (q4, .inl (cI, 200, .inl (fun _ => 0))), (q5, .inl (cI, 200, .inl (fun _ => 0))), (q6, .inl (cZ, 200, .inl (fun _ => 0))), (q7, .inl (cI, 200, .inl (fun _ => 0)))] H := hP
  have hD : va_D A [(h0, .inr (0, [.int 0, .int 0, .int 0, .ref q1, .ref q2, .ref q3, .ref q4, .ref q5, .ref q6, .null, .null])), (q1, .inl (cJ, 800, .inr (.inl (fun _ => 0)))), (q2, .inl (cI, 200, .inl (fun _ => 0))), (q3, .inl (cI, 200, .inl (fun _ => 0))), (q4, .inl (cI, 200, .inl (fun _ => 0))), (q5, .inl (cI, 200, .inl (fun _ => 0))), (q6, .inl (cZ, 200, .inl (fun _ => 0))), (q7, .inl (cI, 200, .inl (fun _ => 0)))] := hD
  refine va_putF (D := D) (ci := 0) (v := .ref q7) (ty := .array .int) (C := RX0) (T := TX0) (N := 11) hx hb hts hin tyX0 tyX0_ok nmX0 hown hK hP hD hS 0 rfl rfl 9 (by decide) f30 (fun _ h9 => h9) rfl hnm rfl (by decide +kernel) rfl rfl (Nat.le_of_ble_eq_true rfl) dX0_init_64 (fun H locs hP hD hS => ?_)
  have hP : va_P D vwCl [(h0, .inr (0, [.int 0, .int 0, .int 0, .ref q1, .ref q2, .ref q3, .ref q4, .ref q5, .ref q6, .ref q7, .null])), (q1, .inl (cJ, 800, .inr (.inl (fun _ => 0)))), (q2, .inl (cI, 200, .inl (fun _ => 0))), (q3, .inl (cI, 200, .inl (fun _ => 0))), (q4, .inl (cI, 200, .inl (fun _ => 0))), (q5, .inl (cI, 200, .inl (fun _ => 0))), (q6, .inl (cZ, 200, .inl (fun _ => 0))), (q7, .inl (cI, 200, .inl (fun _ => 0)))] H := hP
  have hD : va_D A [(h0, .inr (0, [.int 0, .int 0, .int 0, .ref q1, .ref q2, .ref q3, .ref q4, .ref q5, .ref q6, .ref q7, .null])), (q1, .inl (cJ, 800, .inr (.inl (fun _ => 0)))), (q2, .inl (cI, 200, .inl (fun _ => 0))), (q3, .inl (cI, 200, .inl (fun _ => 0))), (q4, .inl (cI, 200, .inl (fun _ => 0))), (q5, .inl (cI, 200, .inl (fun _ => 0))), (q6, .inl (cZ, 200, .inl (fun _ => 0))), (q7, .inl (cI, 200, .inl (fun _ => 0)))] := hD
  refine lv_aload_n hx hb dX0_init_67 rfl (lv_at hl 0 rfl) ?_
  refine lv_sipush (v := 200) hx hb dX0_init_68 (by decide +kernel) ?_
  refine px_newa (atype := .int) (ty := .int) (a0 := (200, .inl (fun _ => 0))) (N' := 200) hx hb (hts (.arrayClass .int) (by decide +kernel)) rfl 0 rfl px_uI hK hP hD hS hA (fun _ => rfl) (by decide +kernel) (by decide +kernel) (by decide +kernel) (Nat.le_of_ble_eq_true rfl) (Nat.le_of_ble_eq_true rfl) dX0_init_71 (fun q8 H hP hD hS => ?_)
  have hP : va_P D vwCl [(h0, .inr (0, [.int 0, .int 0, .int 0, .ref q1, .ref q2, .ref q3, .ref q4, .ref q5, .ref q6, .ref q7, .null])), (q1, .inl (cJ, 800, .inr (.inl (fun _ => 0)))), (q2, .inl (cI, 200, .inl (fun _ => 0))), (q3, .inl (cI, 200, .inl (fun _ => 0))), (q4, .inl (cI, 200, .inl (fun _ => 0))), (q5, .inl (cI, 200, .inl (fun _ => 0))), (q6, .inl (cZ, 200, .inl (fun _ => 0))), (q7, .inl (cI, 200, .inl (fun _ => 0))), (q8, .inl (cI, 200, .inl (fun _ => 0)))] H := hP
  have hD : va_D A [(h0, .inr (0, [.int 0, .int 0, .int 0, .ref q1, .ref q2, .ref q3, .ref q4, .ref q5, .ref q6, .ref q7, .null])), (q1, .inl (cJ, 800, .inr (.inl (fun _ => 0)))), (q2, .inl (cI, 200, .inl (fun _ => 0))), (q3, .inl (cI, 200, .inl (fun _ => 0))), (q4, .inl (cI, 200, .inl (fun _ => 0))), (q5, .inl (cI, 200, .inl (fun _ => 0))), (q6, .inl (cZ, 200, .inl (fun _ => 0))), (q7, .inl (cI, 200, .inl (fun _ => 0))), (q8, .inl (cI, 200, .inl (fun _ => 0)))] := hD
  refine va_putF (D := D) (ci := 0) (v := .ref q8) (ty := .array .int) (C := RX0) (T := TX0) (N := 11) hx hb hts hin tyX0 tyX0_ok nmX0 hown hK hP hD hS 0 rfl rfl 10 (by decide) f33 (fun _ h9 => h9) rfl hnm rfl (by decide +kernel) rfl rfl (Nat.le_of_ble_eq_true rfl) dX0_init_73 (fun H locs hP hD hS => ?_)
  have hP : va_P D vwCl [(h0, .inr (0, [.int 0, .int 0, .int 0, .ref q1, .ref q2, .ref q3, .ref q4, .ref q5, .ref q6, .ref q7, .ref q8])), (q1, .inl (cJ, 800, .inr (.inl (fun _ => 0)))), (q2, .inl (cI, 200, .inl (fun _ => 0))), (q3, .inl (cI, 200, .inl (fun _ => 0))), (q4, .inl (cI, 200, .inl (fun _ => 0))), (q5, .inl (cI, 200, .inl (fun _ => 0))), (q6, .inl (cZ, 200, .inl (fun _ => 0))), (q7, .inl (cI, 200, .inl (fun _ => 0))), (q8, .inl (cI, 200, .inl (fun _ => 0)))] H := hP
  have hD : va_D A [(h0, .inr (0, [.int 0, .int 0, .int 0, .ref q1, .ref q2, .ref q3, .ref q4, .ref q5, .ref q6, .ref q7, .ref q8])), (q1, .inl (cJ, 800, .inr (.inl (fun _ => 0)))), (q2, .inl (cI, 200, .inl (fun _ => 0))), (q3, .inl (cI, 200, .inl (fun _ => 0))), (q4, .inl (cI, 200, .inl (fun _ => 0))), (q5, .inl (cI, 200, .inl (fun _ => 0))), (q6, .inl (cZ, 200, .inl (fun _ => 0))), (q7, .inl (cI, 200, .inl (fun _ => 0))), (q8, .inl (cI, 200, .inl (fun _ => 0)))] := hD
  obtain ⟨ad, had⟩ : ∃ ad : Nat → Nat, ad = fun i => [h0, q1, q2, q3, q4, q5, q6, q7, q8].getD i 0 := ⟨_, rfl⟩
  have e0 : ad 0 = h0 := by rw [had]; rfl
  have hP : va_P D vwCl (w0 cI cJ cZ ad 0 0 0 (fun _ => 0) (fun _ => 0) (fun _ => 0) (fun _ => 0) (fun _ => 0) (fun _ => 0) (fun _ => 0) (fun _ => 0)) H := by rw [had]; exact hP
  have hD : va_D A (w0 cI cJ cZ ad 0 0 0 (fun _ => 0) (fun _ => 0) (fun _ => 0) (fun _ => 0) (fun _ => 0) (fun _ => 0) (fun _ => 0) (fun _ => 0)) := by rw [had]; exact hD
  rw [← e0] at hl
  refine W.widen (k := 8) (n := 2200) (Nat.le_of_ble_eq_true rfl) (Nat.le_of_ble_eq_true rfl) ?_
  refine lv_aload_n hx hb dX0_init_76 rfl (lv_at hl 0 rfl) ?_
  refine lv_iconst (v := nI 1) hx hb dX0_init_77 (by decide +kernel) ?_
  refine lv_iconst (v := nI 1) hx hb dX0_init_78 (by decide +kernel) ?_
  refine px_wv (ci := 0) (q := (RX0, TX0, 11)) (rest := []) S hP hK hD hS (tX0_startGraph (nI 1) (nI 1)) (fun _ => w0_same) (cwV 2 hts gX0_init_X0_startGraph rfl rfl rfl (by decide +kernel) ⟨by decide, by decide⟩) rfl rfl rfl hl.1 rfl (Nat.le_of_ble_eq_true rfl) dX0_init_79 ⟨Nat.le_refl _, Nat.le_refl _⟩ (fun _ H locs _ hP hD hS _ => ?_)
  exact W.vret hx hb hr (fun t ht hW => ⟨⟨ad, rfl, e0, (by rw [ht]; exact hP : va_P D vwCl (w0 cI cJ cZ ad (nI 1) (nI 1) (px_b false) (fun _ => 0) (fun _ => nI 0) (fun _ => nI 0) (fun _ => -1) (fun _ => 0) (fun _ => 0) (fun _ => 0) (fun _ => 0)) t.heap), hD⟩, hS.F ht⟩) hS.2.2 dX0_init_82
set_option maxHeartbeats 4000000 in
set_option maxRecDepth 100000 in
theorem tX1_init (l : Launch) (D : va_G) (cI cJ cZ : ClassId) (h0 sz : Nat) : Met l yX1_init wsX1_init { frames := 2, cells := 6, slots := 41000, locals := 60 } (va_Pc [.ref h0] (fun U => U.heap.size = sz ∧ va_P D vwCl [(h0, .inr (1, [.null, .null, .null, .null, .null, .null, .int 0, .int 0, .int 0]))] U.heap ∧ va_K D vwCl (tyq cI cJ cZ) U ∧ va_D (fun _ => True) [(h0, .inr (1, [.null, .null, .null, .null, .null, .null, .int 0, .int 0, .int 0]))])) (va_Qv (fun ad : Nat → Nat => ad 0 = h0) (fun ad t => va_P D vwCl (w1 cI cZ ad (nI 1) (nI 1) (px_b false) (fun _ => px_b false) (fun _ => nI 0) (fun a => nI a) (fun _ => 0) (fun _ => 0) (fun _ => 0)) t.heap ∧ va_D (va_A [(h0, .inr (1, [.null, .null, .null, .null, .null, .null, .int 0, .int 0, .int 0]))] sz) (w1 cI cZ ad (nI 1) (nI 1) (px_b false) (fun _ => px_b false) (fun _ => nI 0) (fun a => nI a) (fun _ => 0) (fun _ => 0) (fun _ => 0))) (va_A [(h0, .inr (1, [.null, .null, .null, .null, .null, .null, .int 0, .int 0, .int 0]))] sz)) 6 41000 (va_A [(h0, .inr (1, [.null, .null, .null, .null, .null, .null, .int 0, .int 0, .int 0]))] sz) := by
  refine px_met (cc := cX1_init) (maxL := 2) (ret := none) (lv := [(0, .ref h0)]) (by decide +kernel) rfl (Nat.le_of_ble_eq_true rfl) rfl ?_
  intro p e s m below meth c ls S hr hlk hnm hv hl
  obtain ⟨hx, hb, hml, hown, hts⟩ := id S
  obtain ⟨hsz, hP, hK, hD0⟩ := hv
  have hin : ∀ w ∈ wsX10, w ∈ wsX1_init := fun w h => List.mem_cons_of_mem _ (List.mem_append_right _ h)
  have f10 := hts (.fieldLink RX1 10 "PointColoursModel" "pairs" "[Z") (by decide +kernel)
  have f14 := hts (.fieldLink RX1 14 "PointColoursModel" "costs" "[I") (by decide +kernel)
  have f18 := hts (.fieldLink RX1 18 "PointColoursModel" "wishes" "[I") (by decide +kernel)
  have f21 := hts (.fieldLink RX1 21 "PointColoursModel" "colours" "[I") (by decide +kernel)
  have f24 := hts (.fieldLink RX1 24 "PointColoursModel" "row" "[I") (by decide +kernel)
  have f27 := hts (.fieldLink RX1 27 "PointColoursModel" "in" "[Z") (by decide +kernel)
  subst hsz
  have hD := hD0.self (sz := s.heap.size)
  generalize hAe : va_A [(h0, .inr (1, [.null, .null, .null, .null, .null, .null, .int 0, .int 0, .int 0]))] s.heap.size = A at hD ⊢
  have hA : ∀ q : Nat, s.heap.size ≤ q → A q := fun q h => by rw [← hAe]; exact Or.inr h
  have hS : va_S A s.heap s.heap [] := va_S.rf
  refine lv_aload_n hx hb dX1_init_0 rfl (lv_at hl 0 rfl) ?_
  refine W.objInit hx hb hown (hts (.methodLink RX1 1 objectInit) (by decide +kernel)) (hts (.instanceMethod objectInit) (by decide +kernel)) (hts _ (List.mem_cons_of_mem _ (List.mem_append_left _ (List.mem_of_getElem? (i := 2) rfl)))) rfl (by rw [hml]; exact hl.1) rfl dX1_init_1 (Nat.le_of_ble_eq_true rfl) (Nat.le_of_ble_eq_true rfl) ?_
  refine W.eq (g2 := F0 m 4 ls []) rfl ?_
  refine lv_aload_n hx hb dX1_init_4 rfl (lv_at hl 0 rfl) ?_
  refine lv_ldc (v := 40000) hx hb hown (hts (.constant RX1 9 (40000)) (by decide +kernel)) dX1_init_5 ?_
  refine px_newa (atype := .boolean) (ty := .boolean) (a0 := (40000, .inl (fun _ => 0))) (N' := 40000) hx hb (hts (.arrayClass .boolean) (by decide +kernel)) rfl 2 rfl px_uZ hK hP hD hS hA (fun _ => rfl) (by decide +kernel) (by decide +kernel) (by decide +kernel) (Nat.le_of_ble_eq_true rfl) (Nat.le_of_ble_eq_true rfl) dX1_init_7 (fun q1 H hP hD hS => ?_)
  have hP : va_P D vwCl [(h0, .inr (1, [.null, .null, .null, .null, .null, .null, .int 0, .int 0, .int 0])), (q1, .inl (cZ, 40000, .inl (fun _ => 0)))] H := hP
  have hD : va_D A [(h0, .inr (1, [.null, .null, .null, .null, .null, .null, .int 0, .int 0, .int 0])), (q1, .inl (cZ, 40000, .inl (fun _ => 0)))] := hD
  refine va_putF (D := D) (ci := 1) (v := .ref q1) (ty := .array .boolean) (C := RX1) (T := TX1) (N := 9) hx hb hts hin tyX1 tyX1_ok nmX1 hown hK hP hD hS 0 rfl rfl 0 (by decide) f10 (fun _ h9 => h9) rfl hnm rfl (by decide +kernel) rfl rfl (Nat.le_of_ble_eq_true rfl) dX1_init_9 (fun H locs hP hD hS => ?_)
  have hP : va_P D vwCl [(h0, .inr (1, [.ref q1, .null, .null, .null, .null, .null, .int 0, .int 0, .int 0])), (q1, .inl (cZ, 40000, .inl (fun _ => 0)))] H := hP
  have hD : va_D A [(h0, .inr (1, [.ref q1, .null, .null, .null, .null, .null, .int 0, .int 0, .int 0])), (q1, .inl (cZ, 40000, .inl (fun _ => 0)))] := hD
  refine lv_aload_n hx hb dX1_init_12 rfl (lv_at hl 0 rfl) ?_
  refine lv_sipush (v := 200) hx hb dX1_init_13 (by decide +kernel) ?_
  refine px_newa (atype := .int) (ty := .int) (a0 := (200, .inl (fun _ => 0))) (N' := 200) hx hb (hts (.arrayClass .int) (by decide +kernel)) rfl 0 rfl px_uI hK hP hD hS hA (fun _ => rfl) (by decide +kernel) (by decide +kernel) (by decide +kernel) (Nat.le_of_ble_eq_true rfl) (Nat.le_of_ble_eq_true rfl) dX1_init_16 (fun q2 H hP hD hS => ?_)
  have hP : va_P D vwCl [(h0, .inr (1, [.ref q1, .null, .null, .null, .null, .null, .int 0, .int 0, .int 0])), (q1, .inl (cZ, 40000, .inl (fun _ => 0))), (q2, .inl (cI, 200, .inl (fun _ => 0)))] H := hP
  have hD : va_D A [(h0, .inr (1, [.ref q1, .null, .null, .null, .null, .null, .int 0, .int 0, .int 0])), (q1, .inl (cZ, 40000, .inl (fun _ => 0))), (q2, .inl (cI, 200, .inl (fun _ => 0)))] := hD
  refine va_putF (D := D) (ci := 1) (v := .ref q2) (ty := .array .int) (C := RX1) (T := TX1) (N := 9) hx hb hts hin tyX1 tyX1_ok nmX1 hown hK hP hD hS 0 rfl rfl 1 (by decide) f14 (fun _ h9 => h9) rfl hnm rfl (by decide +kernel) rfl rfl (Nat.le_of_ble_eq_true rfl) dX1_init_18 (fun H locs hP hD hS => ?_)
  have hP : va_P D vwCl [(h0, .inr (1, [.ref q1, .ref q2, .null, .null, .null, .null, .int 0, .int 0, .int 0])), (q1, .inl (cZ, 40000, .inl (fun _ => 0))), (q2, .inl (cI, 200, .inl (fun _ => 0)))] H := hP
  have hD : va_D A [(h0, .inr (1, [.ref q1, .ref q2, .null, .null, .null, .null, .int 0, .int 0, .int 0])), (q1, .inl (cZ, 40000, .inl (fun _ => 0))), (q2, .inl (cI, 200, .inl (fun _ => 0)))] := hD
  refine lv_aload_n hx hb dX1_init_21 rfl (lv_at hl 0 rfl) ?_
  refine lv_sipush (v := 200) hx hb dX1_init_22 (by decide +kernel) ?_
  refine px_newa (atype := .int) (ty := .int) (a0 := (200, .inl (fun _ => 0))) (N' := 200) hx hb (hts (.arrayClass .int) (by decide +kernel)) rfl 0 rfl px_uI hK hP hD hS hA (fun _ => rfl) (by decide +kernel) (by decide +kernel) (by decide +kernel) (Nat.le_of_ble_eq_true rfl) (Nat.le_of_ble_eq_true rfl) dX1_init_25 (fun q3 H hP hD hS => ?_)
  have hP : va_P D vwCl [(h0, .inr (1, [.ref q1, .ref q2, .null, .null, .null, .null, .int 0, .int 0, .int 0])), (q1, .inl (cZ, 40000, .inl (fun _ => 0))), (q2, .inl (cI, 200, .inl (fun _ => 0))), (q3, .inl (cI, 200, .inl (fun _ => 0)))] H := hP
  have hD : va_D A [(h0, .inr (1, [.ref q1, .ref q2, .null, .null, .null, .null, .int 0, .int 0, .int 0])), (q1, .inl (cZ, 40000, .inl (fun _ => 0))), (q2, .inl (cI, 200, .inl (fun _ => 0))), (q3, .inl (cI, 200, .inl (fun _ => 0)))] := hD
  refine va_putF (D := D) (ci := 1) (v := .ref q3) (ty := .array .int) (C := RX1) (T := TX1) (N := 9) hx hb hts hin tyX1 tyX1_ok nmX1 hown hK hP hD hS 0 rfl rfl 2 (by decide) f18 (fun _ h9 => h9) rfl hnm rfl (by decide +kernel) rfl rfl (Nat.le_of_ble_eq_true rfl) dX1_init_27 (fun H locs hP hD hS => ?_)
  have hP : va_P D vwCl [(h0, .inr (1, [.ref q1, .ref q2, .ref q3, .null, .null, .null, .int 0, .int 0, .int 0])), (q1, .inl (cZ, 40000, .inl (fun _ => 0))), (q2, .inl (cI, 200, .inl (fun _ => 0))), (q3, .inl (cI, 200, .inl (fun _ => 0)))] H := hP
  have hD : va_D A [(h0, .inr (1, [.ref q1, .ref q2, .ref q3, .null, .null, .null, .int 0, .int 0, .int 0])), (q1, .inl (cZ, 40000, .inl (fun _ => 0))), (q2, .inl (cI, 200, .inl (fun _ => 0))), (q3, .inl (cI, 200, .inl (fun _ => 0)))] := hD
  refine lv_aload_n hx hb dX1_init_30 rfl (lv_at hl 0 rfl) ?_
  refine lv_sipush (v := 200) hx hb dX1_init_31 (by decide +kernel) ?_
  refine px_newa (atype := .int) (ty := .int) (a0 := (200, .inl (fun _ => 0))) (N' := 200) hx hb (hts (.arrayClass .int) (by decide +kernel)) rfl 0 rfl px_uI hK hP hD hS hA (fun _ => rfl) (by decide +kernel) (by decide +kernel) (by decide +kernel) (Nat.le_of_ble_eq_true rfl) (Nat.le_of_ble_eq_true rfl) dX1_init_34 (fun q4 H hP hD hS => ?_)
  have hP : va_P D vwCl [(h0, .inr (1, [.ref q1, .ref q2, .ref q3, .null, .null, .null, .int 0, .int 0, .int 0])), (q1, .inl (cZ, 40000, .inl (fun _ => 0))), (q2, .inl (cI, 200, .inl (fun _ => 0))), (q3, .inl (cI, 200, .inl (fun _ => 0))), (q4, .inl (cI, 200, .inl (fun _ => 0)))] H := hP
  have hD : va_D A [(h0, .inr (1, [.ref q1, .ref q2, .ref q3, .null, .null, .null, .int 0, .int 0, .int 0])), (q1, .inl (cZ, 40000, .inl (fun _ => 0))), (q2, .inl (cI, 200, .inl (fun _ => 0))), (q3, .inl (cI, 200, .inl (fun _ => 0))), (q4, .inl (cI, 200, .inl (fun _ => 0)))] := hD
  refine va_putF (D := D) (ci := 1) (v := .ref q4) (ty := .array .int) (C := RX1) (T := TX1) (N := 9) hx hb hts hin tyX1 tyX1_ok nmX1 hown hK hP hD hS 0 rfl rfl 3 (by decide) f21 (fun _ h9 => h9) rfl hnm rfl (by decide +kernel) rfl rfl (Nat.le_of_ble_eq_true rfl) dX1_init_36 (fun H locs hP hD hS => ?_)
  have hP : va_P D vwCl [(h0, .inr (1, [.ref q1, .ref q2, .ref q3, .ref q4, .null, .null, .int 0, .int 0, .int 0])), (q1, .inl (cZ, 40000, .inl (fun _ => 0))), (q2, .inl (cI, 200, .inl (fun _ => 0))), (q3, .inl (cI, 200, .inl (fun _ => 0))), (q4, .inl (cI, 200, .inl (fun _ => 0)))] H := hP
  have hD : va_D A [(h0, .inr (1, [.ref q1, .ref q2, .ref q3, .ref q4, .null, .null, .int 0, .int 0, .int 0])), (q1, .inl (cZ, 40000, .inl (fun _ => 0))), (q2, .inl (cI, 200, .inl (fun _ => 0))), (q3, .inl (cI, 200, .inl (fun _ => 0))), (q4, .inl (cI, 200, .inl (fun _ => 0)))] := hD
  refine lv_aload_n hx hb dX1_init_39 rfl (lv_at hl 0 rfl) ?_
  refine lv_sipush (v := 200) hx hb dX1_init_40 (by decide +kernel) ?_
  refine px_newa (atype := .int) (ty := .int) (a0 := (200, .inl (fun _ => 0))) (N' := 200) hx hb (hts (.arrayClass .int) (by decide +kernel)) rfl 0 rfl px_uI hK hP hD hS hA (fun _ => rfl) (by decide +kernel) (by decide +kernel) (by decide +kernel) (Nat.le_of_ble_eq_true rfl) (Nat.le_of_ble_eq_true rfl) dX1_init_43 (fun q5 H hP hD hS => ?_)
  have hP : va_P D vwCl [(h0, .inr (1, [.ref q1, .ref q2, .ref q3, .ref q4, .null, .null, .int 0, .int 0, .int 0])), (q1, .inl (cZ, 40000, .inl (fun _ => 0))), (q2, .inl (cI, 200, .inl (fun _ => 0))), (q3, .inl (cI, 200, .inl (fun _ => 0))), (q4, .inl (cI, 200, .inl (fun _ => 0))), (q5, .inl (cI, 200, .inl (fun _ => 0)))] H := hP
  have hD : va_D A [(h0, .inr (1, [.ref q1, .ref q2, .ref q3, .ref q4, .null, .null, .int 0, .int 0, .int 0])), (q1, .inl (cZ, 40000, .inl (fun _ => 0))), (q2, .inl (cI, 200, .inl (fun _ => 0))), (q3, .inl (cI, 200, .inl (fun _ => 0))), (q4, .inl (cI, 200, .inl (fun _ => 0))), (q5, .inl (cI, 200, .inl (fun _ => 0)))] := hD
  refine va_putF (D := D) (ci := 1) (v := .ref q5) (ty := .array .int) (C := RX1) (T := TX1) (N := 9) hx hb hts hin tyX1 tyX1_ok nmX1 hown hK hP hD hS 0 rfl rfl 4 (by decide) f24 (fun _ h9 => h9) rfl hnm rfl (by decide +kernel) rfl rfl (Nat.le_of_ble_eq_true rfl) dX1_init_45 (fun H locs hP hD hS => ?_)
  have hP : va_P D vwCl [(h0, .inr (1, [.ref q1, .ref q2, .ref q3, .ref q4, .ref q5, .null, .int 0, .int 0, .int 0])), (q1, .inl (cZ, 40000, .inl (fun _ => 0))), (q2, .inl (cI, 200, .inl (fun _ => 0))), (q3, .inl (cI, 200, .inl (fun _ => 0))), (q4, .inl (cI, 200, .inl (fun _ => 0))), (q5, .inl (cI, 200, .inl (fun _ => 0)))] H := hP
  have hD : va_D A [(h0, .inr (1, [.ref q1, .ref q2, .ref q3, .ref q4, .ref q5, .null, .int 0, .int 0, .int 0])), (q1, .inl (cZ, 40000, .inl (fun _ => 0))), (q2, .inl (cI, 200, .inl (fun _ => 0))), (q3, .inl (cI, 200, .inl (fun _ => 0))), (q4, .inl (cI, 200, .inl (fun _ => 0))), (q5, .inl (cI, 200, .inl (fun _ => 0)))] := hD
  refine lv_aload_n hx hb dX1_init_48 rfl (lv_at hl 0 rfl) ?_
  refine lv_sipush (v := 200) hx hb dX1_init_49 (by decide +kernel) ?_
  refine px_newa (atype := .boolean) (ty := .boolean) (a0 := (200, .inl (fun _ => 0))) (N' := 200) hx hb (hts (.arrayClass .boolean) (by decide +kernel)) rfl 2 rfl px_uZ hK hP hD hS hA (fun _ => rfl) (by decide +kernel) (by decide +kernel) (by decide +kernel) (Nat.le_of_ble_eq_true rfl) (Nat.le_of_ble_eq_true rfl) dX1_init_52 (fun q6 H hP hD hS => ?_)
  have hP : va_P D vwCl [(h0, .inr (1, [.ref q1, .ref q2, .ref q3, .ref q4, .ref q5, .null, .int 0, .int 0, .int 0])), (q1, .inl (cZ, 40000, .inl (fun _ => 0))), (q2, .inl (cI, 200, .inl (fun _ => 0))), (q3, .inl (cI, 200, .inl (fun _ => 0))), (q4, .inl (cI, 200, .inl (fun _ => 0))), (q5, .inl (cI, 200, .inl (fun _ => 0))), (q6, .inl (cZ, 200, .inl (fun _ => 0)))] H := hP
  have hD : va_D A [(h0, .inr (1, [.ref q1, .ref q2, .ref q3, .ref q4, .ref q5, .null, .int 0, .int 0, .int 0])), (q1, .inl (cZ, 40000, .inl (fun _ => 0))), (q2, .inl (cI, 200, .inl (fun _ => 0))), (q3, .inl (cI, 200, .inl (fun _ => 0))), (q4, .inl (cI, 200, .inl (fun _ => 0))), (q5, .inl (cI, 200, .inl (fun _ => 0))), (q6, .inl (cZ, 200, .inl (fun _ => 0)))] := hD
  refine va_putF (D := D) (ci := 1) (v := .ref q6) (ty := .array .boolean) (C := RX1) (T := TX1) (N := 9) hx hb hts hin tyX1 tyX1_ok nmX1 hown hK hP hD hS 0 rfl rfl 5 (by decide) f27 (fun _ h9 => h9) rfl hnm rfl (by decide +kernel) rfl rfl (Nat.le_of_ble_eq_true rfl) dX1_init_54 (fun H locs hP hD hS => ?_)
  have hP : va_P D vwCl [(h0, .inr (1, [.ref q1, .ref q2, .ref q3, .ref q4, .ref q5, .ref q6, .int 0, .int 0, .int 0])), (q1, .inl (cZ, 40000, .inl (fun _ => 0))), (q2, .inl (cI, 200, .inl (fun _ => 0))), (q3, .inl (cI, 200, .inl (fun _ => 0))), (q4, .inl (cI, 200, .inl (fun _ => 0))), (q5, .inl (cI, 200, .inl (fun _ => 0))), (q6, .inl (cZ, 200, .inl (fun _ => 0)))] H := hP
  have hD : va_D A [(h0, .inr (1, [.ref q1, .ref q2, .ref q3, .ref q4, .ref q5, .ref q6, .int 0, .int 0, .int 0])), (q1, .inl (cZ, 40000, .inl (fun _ => 0))), (q2, .inl (cI, 200, .inl (fun _ => 0))), (q3, .inl (cI, 200, .inl (fun _ => 0))), (q4, .inl (cI, 200, .inl (fun _ => 0))), (q5, .inl (cI, 200, .inl (fun _ => 0))), (q6, .inl (cZ, 200, .inl (fun _ => 0)))] := hD
  obtain ⟨ad, had⟩ : ∃ ad : Nat → Nat, ad = fun i => [h0, q1, q2, q3, q4, q5, q6].getD i 0 := ⟨_, rfl⟩
  have e0 : ad 0 = h0 := by rw [had]; rfl
  have hP : va_P D vwCl (w1 cI cZ ad 0 0 0 (fun _ => 0) (fun _ => 0) (fun _ => 0) (fun _ => 0) (fun _ => 0) (fun _ => 0)) H := by rw [had]; exact hP
  have hD : va_D A (w1 cI cZ ad 0 0 0 (fun _ => 0) (fun _ => 0) (fun _ => 0) (fun _ => 0) (fun _ => 0) (fun _ => 0)) := by rw [had]; exact hD
  rw [← e0] at hl
  refine W.widen (k := 6) (n := 41000) (Nat.le_of_ble_eq_true rfl) (Nat.le_of_ble_eq_true rfl) ?_
  refine lv_aload_n hx hb dX1_init_57 rfl (lv_at hl 0 rfl) ?_
  refine lv_iconst (v := nI 1) hx hb dX1_init_58 (by decide +kernel) ?_
  refine lv_iconst (v := nI 1) hx hb dX1_init_59 (by decide +kernel) ?_
  refine px_wi (ci := 1) (q := (RX1, TX1, 9)) (rest := []) S hP hK hD hS (tX1_begin_ok (i := 1) (j := 1) (by decide) (by decide) (by decide) (by decide)) (fun _ => w1_same) (cwV 2 hts gX1_init_X1_begin rfl rfl rfl (by decide +kernel) ⟨by decide, by decide⟩) rfl rfl rfl hl.1 rfl (Nat.le_of_ble_eq_true rfl) dX1_init_60 ⟨Nat.le_refl _, Nat.le_refl _⟩ (fun r _ H locs _ hP hD hS _ => ?_)
  refine lv_istore_n (lv' := [(1, .int r), (0, .ref (ad 0))]) hx hb dX1_init_63 rfl hl (by decide) rfl (fun ls hl => ?_)
  exact W.vret hx hb hr (fun t ht hW => ⟨⟨ad, rfl, e0, (by rw [ht]; exact hP : va_P D vwCl (w1 cI cZ ad (nI 1) (nI 1) (px_b false) (fun _ => px_b false) (fun _ => nI 0) (fun a => nI a) (fun _ => 0) (fun _ => 0) (fun _ => 0)) t.heap), hD⟩, hS.F ht⟩) hS.2.2 dX1_init_64
end
section
/-! what the two have in common -/
def pm_R (n k : Nat) (g : Bool) (J : Nat → Nat → Bool) (cst ws : Nat → Nat) (E : Nat → Int64) (G C Wi O CF PA C1 Wi1 CO RW : Nat → Int32) : Prop :=
  (1 ≤ n ∧ n ≤ 200 ∧ 1 ≤ k ∧ k ≤ 30) ∧ (∀ a b, J a b = J b a) ∧ (∀ a b, a < 200 → b < 200 → pm_ed E a b = J a b) ∧ (∀ a b, a < 200 → b < 200 → PA (200 * a + b) = px_b (J a b)) ∧
  (∀ a, a < n → G a = nI (pm_cn (J a) n)) ∧ (∀ a, a < 200 → C a = nI (cst a)) ∧ (∀ a, a < 200 → C1 a = nI (cst a)) ∧ (∀ a, cst a ≤ 1000000) ∧
  (∀ a, a < n → ws a < n) ∧ (∀ a, a < n → Wi a = if ws a = a then -1 else nI (ws a)) ∧ (∀ a, a < n → Wi1 a = nI (ws a)) ∧
  (g = true → (∀ i, i < n → O i = RW i) ∧ (∀ a, a < n → CF a = CO a) ∧ ∀ a, a < n → pm_ok k (CO a))
theorem pm_R_begin {i j : Nat} (h1 : 1 ≤ i) (h2 : i ≤ 200) (h3 : 1 ≤ j) (h4 : j ≤ 30) (O CF CO RW : Nat → Int32) : pm_R i j false (fun _ _ => false) (fun _ => 0) (fun a => a) (fun _ => 0) (fun _ => nI 0) (fun _ => nI 0) (fun _ => -1) O CF (fun _ => px_b false) (fun _ => nI 0) (fun a => nI a) CO RW := by
  refine ⟨⟨h1, h2, h3, h4⟩, fun _ _ => rfl, fun a b _ _ => ?_, fun _ _ _ _ => rfl, fun a _ => ?_, fun _ _ => rfl, fun _ _ => rfl, fun _ => Nat.zero_le _, fun a h => h, fun a _ => ?_, fun _ _ => rfl, fun h => by cases h⟩
  · simp [pm_ed]
  · rw [pm_cn_zero (fun _ _ => rfl)]
  · simp
theorem pm_ed_add {E : Nat → Int64} {a b x y : Nat} (hb : b < 200) (hy : y < 200) : pm_ed (vp_updL E (a * 4 + b / 64) (E (a * 4 + b / 64) ||| pm_bit b)) x y = (pm_ed E x y || (decide (x = a) && decide (y = b))) := by
  rw [pm_ed]
  by_cases q : x * 4 + y / 64 = a * 4 + b / 64
  · rw [q, pk_uLs, pm_bit_or, ← q]
    have h1 : x = a := by omega
    have h2 : y % 64 = b % 64 ↔ y = b := by omega
    rw [← pm_ed]
    simp [h1, h2]
  · rw [pk_uLn q, ← pm_ed]
    have h1 : ¬ (x = a ∧ y = b) := fun z => q (by rw [z.1, z.2])
    by_cases z : x = a
    · have : ¬ y = b := fun y2 => h1 ⟨z, y2⟩
      simp [this]
    · simp [z]
def pm_J (J : Nat → Nat → Bool) (a b : Nat) : Nat → Nat → Bool := fun x y => (J x y || (decide (x = a) && decide (y = b))) || (decide (x = b) && decide (y = a))
theorem pm_R_join {n k : Nat} {g : Bool} {J : Nat → Nat → Bool} {cst ws : Nat → Nat} {E : Nat → Int64} {G C Wi O CF PA C1 Wi1 CO RW : Nat → Int32} (h : pm_R n k g J cst ws E G C Wi O CF PA C1 Wi1 CO RW) {a b : Nat} (ha : a < n) (hb : b < n) (hab : a ≠ b) (hJ : J a b = false) :
    pm_R n k false (pm_J J a b) cst ws (vp_updL (vp_updL E (a * 4 + b / 64) (E (a * 4 + b / 64) ||| pm_bit b)) (b * 4 + a / 64) ((vp_updL E (a * 4 + b / 64) (E (a * 4 + b / 64) ||| pm_bit b)) (b * 4 + a / 64) ||| pm_bit a)) (upd (upd G a (G a + nI 1)) b ((upd G a (G a + nI 1)) b + nI 1)) C Wi O CF (upd (upd PA (200 * a + b) (px_b true)) (200 * b + a) (px_b true)) C1 Wi1 CO RW := by
  obtain ⟨r1, r2, r3, r4, r5, r6, r7, r8, r9, r10, r11, r12⟩ := h
  have hJ2 : J b a = false := by rw [r2]; exact hJ
  refine ⟨r1, fun x y => ?_, fun x y hx hy => ?_, fun x y hx hy => ?_, fun x hx => ?_, r6, r7, r8, r9, r10, r11, fun q => by cases q⟩
  · simp only [pm_J]
    rw [r2 x y]
    cases J y x <;> by_cases z1 : x = a <;> by_cases z2 : x = b <;> by_cases z3 : y = a <;> by_cases z4 : y = b <;> simp [z1, z2, z3, z4] <;> omega
  · rw [pm_ed_add (by omega) hy, pm_ed_add (by omega) hy, r3 x y hx hy]; rfl
  · simp only [pm_J]
    by_cases q1 : 200 * x + y = 200 * b + a
    · have e1 : x = b := by omega
      have e2 : y = a := by omega
      rw [q1, pk_us]; simp [e1, e2]
    · rw [pk_un q1]
      by_cases q2 : 200 * x + y = 200 * a + b
      · have e1 : x = a := by omega
        have e2 : y = b := by omega
        rw [q2, pk_us]; simp [e1, e2]
      · rw [pk_un q2, r4 x y hx hy]
        congr 1
        by_cases z1 : x = a <;> by_cases z2 : x = b <;> by_cases z3 : y = a <;> by_cases z4 : y = b <;> simp [z1, z2, z3, z4] <;> omega
  · by_cases z : x = b
    · subst z
      rw [pk_us, pk_un (Ne.symm hab), r5 x hx, nI_add]
      congr 1
      symm
      refine pm_cn_rm (a := a) (by simp [pm_J]) ha (fun y _ => ?_)
      have z5 : ¬ x = a := Ne.symm hab
      by_cases z3 : y = a
      · simp [pm_J, z3, hJ2]
      · simp [pm_J, z3, z5]
    · rw [pk_un z]
      by_cases z1 : x = a
      · subst z1
        rw [pk_us, r5 x hx, nI_add]
        congr 1
        symm
        refine pm_cn_rm (a := b) (by simp [pm_J]) hb (fun y _ => ?_)
        by_cases z3 : y = b
        · simp [pm_J, z3, hJ]
        · simp [pm_J, z3, z]
      · rw [pk_un z1, r5 x hx]
        congr 1
        exact pm_cn_congr (fun y _ => by simp [pm_J, z, z1])
theorem pm_R_cost {n k : Nat} {g : Bool} {J : Nat → Nat → Bool} {cst ws : Nat → Nat} {E : Nat → Int64} {G C Wi O CF PA C1 Wi1 CO RW : Nat → Int32} (h : pm_R n k g J cst ws E G C Wi O CF PA C1 Wi1 CO RW) {a x : Nat} (hx : x ≤ 1000000) :
    pm_R n k false J (fun q => if q = a then x else cst q) ws E G (upd C a (nI x)) Wi O CF PA (upd C1 a (nI x)) Wi1 CO RW := by
  obtain ⟨r1, r2, r3, r4, r5, r6, r7, r8, r9, r10, r11, r12⟩ := h
  refine ⟨r1, r2, r3, r4, r5, fun q hq => ?_, fun q hq => ?_, fun q => ?_, r9, r10, r11, fun q => by cases q⟩
  · show _ = nI (if q = a then x else cst q)
    by_cases z : q = a
    · rw [z, pk_us, if_pos rfl]
    · rw [pk_un z, if_neg z]; exact r6 q hq
  · show _ = nI (if q = a then x else cst q)
    by_cases z : q = a
    · rw [z, pk_us, if_pos rfl]
    · rw [pk_un z, if_neg z]; exact r7 q hq
  · show (if q = a then x else cst q) ≤ _
    split
    · exact hx
    · exact r8 q
theorem pm_R_wish {n k : Nat} {g : Bool} {J : Nat → Nat → Bool} {cst ws : Nat → Nat} {E : Nat → Int64} {G C Wi O CF PA C1 Wi1 CO RW : Nat → Int32} (h : pm_R n k g J cst ws E G C Wi O CF PA C1 Wi1 CO RW) {a b : Nat} (hb : b < n) :
    pm_R n k false J cst (fun q => if q = a then b else ws q) E G C (upd Wi a (if a = b then -1 else nI b)) O CF PA C1 (upd Wi1 a (nI b)) CO RW := by
  obtain ⟨r1, r2, r3, r4, r5, r6, r7, r8, r9, r10, r11, r12⟩ := h
  refine ⟨r1, r2, r3, r4, r5, r6, r7, r8, fun q hq => ?_, fun q hq => ?_, fun q hq => ?_, fun q => by cases q⟩
  · show (if q = a then b else ws q) < n
    split
    · exact hb
    · exact r9 q hq
  · show _ = if (if q = a then b else ws q) = q then -1 else nI (if q = a then b else ws q)
    by_cases z : q = a
    · subst z
      rw [pk_us, if_pos rfl]
      by_cases y : q = b
      · rw [if_pos y, if_pos y.symm]
      · rw [if_neg y, if_neg (Ne.symm y)]
    · rw [pk_un z, if_neg z]; exact r10 q hq
  · show _ = nI (if q = a then b else ws q)
    by_cases z : q = a
    · rw [z, pk_us, if_pos rfl]
    · rw [pk_un z, if_neg z]; exact r11 q hq
theorem pm_R_give {n k : Nat} {g : Bool} {J : Nat → Nat → Bool} {cst ws : Nat → Nat} {E : Nat → Int64} {G C Wi O CF PA C1 Wi1 CO RW : Nat → Int32} (h : pm_R n k g J cst ws E G C Wi O CF PA C1 Wi1 CO RW) {O' CO' RW' : Nat → Int32} (h1 : ∀ i, i < n → O' i = nI (pm_od J n k cst i)) (h2 : ∀ i, i < n → RW' i = nI (pm_od J n k cst i)) (h3 : ∀ a, a < n → CO' a = pm_cs J n k cst ws n a) :
    pm_R n k true J cst ws E G C Wi O' (pm_cs J n k cst ws n) PA C1 Wi1 CO' RW' := by
  obtain ⟨r1, r2, r3, r4, r5, r6, r7, r8, r9, r10, r11, r12⟩ := h
  exact ⟨r1, r2, r3, r4, r5, r6, r7, r8, r9, r10, r11, fun _ => ⟨fun i hi => by rw [h1 i hi, h2 i hi], fun a ha => (h3 a ha).symm, fun a ha => by rw [h3 a ha]; exact pm_cs_ok J n k cst ws n a⟩⟩
theorem pm_rd_congr {g : Bool} {n : Nat} {F F' : Nat → Int32} (hn : n < 2 ^ 31) (h : g = true → ∀ a, a < n → F a = F' a) (a : Int32) : pm_rd g n F a = pm_rd g n F' a := by
  cases g with
  | false => rw [pm_rd_g, pm_rd_g]
  | true =>
    cases hp : pm_pt n a with
    | false => rw [pm_rd_n hp, pm_rd_n hp]
    | true =>
      obtain ⟨j, hj, rfl⟩ := pm_pt_of hn hp
      rw [pm_rd_t hn hj, pm_rd_t hn hj, h rfl j hj]
theorem pm_sm_congr {f g : Nat → Nat} : ∀ {n : Nat}, (∀ b, b < n → f b = g b) → pm_sm f n = pm_sm g n := by
  intro n
  induction n with
  | zero => intro _; rfl
  | succ n ih => intro h; rw [pm_sm, pm_sm, ih (fun b hb => h b (by omega)), h n (by omega)]
theorem pm_st_congr {J : Nat → Nat → Bool} {n : Nat} {F F' : Nat → Int32} (h : ∀ a, a < n → F a = F' a) : pm_st J F n = pm_st J F' n :=
  pm_sm_congr (fun a ha => pm_cn_congr (fun b hb => by rw [pm_sy, pm_sy, h a ha, h b hb]))
theorem pm_str {J : Nat → Nat → Bool} {n : Nat} {g : Bool} {F F' : Nat → Int32} (h : g = true → ∀ a, a < n → F a = F' a) : nI (if g = true then pm_st J F n else 0) = nI (if g = true then pm_st J F' n else 0) := by
  cases g with
  | false => rfl
  | true => rw [if_pos rfl, if_pos rfl, pm_st_congr (h rfl)]
/-! the two worlds lie apart -/
theorem px_adr0 {cI cJ cZ : ClassId} {ad : Nat → Nat} {pt co gv : Int32} {E : Nat → Int64} {G C Wi O IO NI CF : Nat → Int32} {i : Nat} {x : Nat × va_E} (h : (w0 cI cJ cZ ad pt co gv E G C Wi O IO NI CF)[i]? = some x) : i < 9 ∧ x.1 = ad i := by
  match i, h with
  | 0, h => cases h; exact ⟨by decide, rfl⟩
  | 1, h => cases h; exact ⟨by decide, rfl⟩
  | 2, h => cases h; exact ⟨by decide, rfl⟩
  | 3, h => cases h; exact ⟨by decide, rfl⟩
  | 4, h => cases h; exact ⟨by decide, rfl⟩
  | 5, h => cases h; exact ⟨by decide, rfl⟩
  | 6, h => cases h; exact ⟨by decide, rfl⟩
  | 7, h => cases h; exact ⟨by decide, rfl⟩
  | 8, h => cases h; exact ⟨by decide, rfl⟩
  | i + 9, h => simp at h
theorem px_adr1 {cI cZ : ClassId} {bd : Nat → Nat} {n k gv : Int32} {PA C Wi CO RW IN : Nat → Int32} {i : Nat} {x : Nat × va_E} (h : (w1 cI cZ bd n k gv PA C Wi CO RW IN)[i]? = some x) : i < 7 ∧ x.1 = bd i := by
  match i, h with
  | 0, h => cases h; exact ⟨by decide, rfl⟩
  | 1, h => cases h; exact ⟨by decide, rfl⟩
  | 2, h => cases h; exact ⟨by decide, rfl⟩
  | 3, h => cases h; exact ⟨by decide, rfl⟩
  | 4, h => cases h; exact ⟨by decide, rfl⟩
  | 5, h => cases h; exact ⟨by decide, rfl⟩
  | 6, h => cases h; exact ⟨by decide, rfl⟩
  | i + 7, h => simp at h
theorem px_sep01 {cI cJ cZ cI2 cZ2 : ClassId} {ad bd : Nat → Nat} {pt co gv : Int32} {E : Nat → Int64} {G C Wi O IO NI CF : Nat → Int32} {n k gv2 : Int32} {PA C2 Wi2 CO RW IN : Nat → Int32} (h : ∀ i j, i < 9 → j < 7 → ad i ≠ bd j) (i j : Nat) (x y : Nat × va_E) (hx : (w0 cI cJ cZ ad pt co gv E G C Wi O IO NI CF)[i]? = some x) (hy : (w1 cI2 cZ2 bd n k gv2 PA C2 Wi2 CO RW IN)[j]? = some y) : x.1 ≠ y.1 := by
  obtain ⟨h1, e1⟩ := px_adr0 hx
  obtain ⟨h2, e2⟩ := px_adr1 hy
  rw [e1, e2]; exact h i j h1 h2
theorem px_sep10 {cI cJ cZ cI2 cZ2 : ClassId} {ad bd : Nat → Nat} {pt co gv : Int32} {E : Nat → Int64} {G C Wi O IO NI CF : Nat → Int32} {n k gv2 : Int32} {PA C2 Wi2 CO RW IN : Nat → Int32} (h : ∀ i j, i < 9 → j < 7 → ad i ≠ bd j) (j i : Nat) (y x : Nat × va_E) (hy : (w1 cI2 cZ2 bd n k gv2 PA C2 Wi2 CO RW IN)[j]? = some y) (hx : (w0 cI cJ cZ ad pt co gv E G C Wi O IO NI CF)[i]? = some x) : y.1 ≠ x.1 :=
  Ne.symm (px_sep01 h i j x y hx hy)
theorem pm_head {L i : Nat} (hL : L < 2 ^ 30) (hi : i < 2 ^ 30) : nI L - nI 3 < nI i ↔ L < i + 3 := by
  rw [Int32.lt_iff_toInt_lt, pk_sub_toInt hL (by decide), nI_toInt (by omega)]
  omega
end
section
-- ===== end of PART A; then your names; then what follows =====
/-! THE CLAIM OUT OF ONE WALK OF THE LAW'S BODY. Your part is whole_start (and what it stands on); all else here is the same for every law, but numbers. -/
def R_law : String := "PointColoursLaw"
def lw_P (b : Addr) (xs : List Int32) (args : Array Value) (s : State) : Prop := args = #[.ref b] ∧ s.IntsAt b xs ∧ xs.length ≤ 1536 ∧ (Jvm.Cond.and given_1 narrow_1).before args s = true
def lw_Q (_ : Array Value) (s : State) (o : Outcome) (t : State) : Prop := o = .returned (some (.int 1)) ∧ Framed s o t [] 600000 7302250
def lw_Z (below : List Frame) (a : Array Value) (s : State) : State → Prop := fun t => ∃ o, t.status = .running ∧ Ended t below o ∧ lw_Q a s o t
/-- the law's own end, with 1 on the stack, nothing written that was there before, its room as the claim has it -/
theorem lw_ret {p : Program} {l : Launch} {e : Env} {s : State} {m : MethodId} {below : List Frame} {meth : Method} {c : Code} {b : Nat} (hx : p.tables.exec = Jvm.exec) (hb : c.code = code) (hr : meth.sig.returnType = ret) (hlocks : meth.locks = false) {pc : Nat} {H : Heap} {ls : Array Slot} (hdg : decode code pc = .ok (.ireturn, 1)) : W p l e room_1 s m #[Value.ref b] below meth c H [] 600000 7302250 (lw_Z below #[Value.ref b] s) (F0 m pc ls [.int 1]) := by
  intro T hT X
  obtain ⟨fs, hret, hrun, hended, hW, hframe⟩ := X.leave (v := some (.int 1)) (hlocks := hlocks) (fun h => by rw [hr] at h; cases h)
  have hmeth' : T.vm.method? m = some meth := X.method'
  refine ⟨T.setFrames fs, ?_, .returned (some (.int 1)), hrun, hended, rfl, ⟨_, rfl⟩, hW, hframe⟩
  jvm_step X.here [X.here.top, hx, hb, hdg, hmeth', hr, ret, narrow_b1]
  (try refine ⟨rfl, ?_⟩); (try refine ⟨rfl, ?_⟩)
  first | (intro acts; rw [hret _ acts rfl rfl rfl]) | rw [hret _ _ rfl rfl rfl]
  exact Steps.refl _
/-- what holds at the law's entry: the machine, the code, the tables' words (any of lw_tbl by 'hts w (by decide +kernel)'), the script of L ints xs at the cell b, what the Statement gives of the start (any of its parts by flat_of_before) -/
def lw_At (p : Program) (s : State) (m : MethodId) (meth : Method) (c : Code) (b L : Nat) (xs : Nat → Int32) : Prop :=
  p.tables.exec = Jvm.exec ∧ c.code = code ∧ meth.sig.returnType = ret ∧ c.maxLocals = 4 ∧ s.vm.findClass R_law = some m.cls ∧ (∀ w ∈ lw_tbl, w.before #[Value.ref b] s = true) ∧ va_X b L xs s s.heap ∧ b < s.heap.size ∧ meth.locks = false ∧ (Jvm.Cond.and given_1 narrow_1).before #[Value.ref b] s = true
section PL
variable {p : Program} {l : Launch} {e : Env} {R : Room} {s : State} {m : MethodId} {args : Array Value} {below : List Frame} {meth : Method} {c : Code} {H : Heap} {locs : List Loc} {cells slots : Nat} {Q : State → Prop}
variable {cc : ByteArray} {pc : Nat} {ls : Array Slot} {rest : List Value} {A : Nat → Prop} {H0 : Heap}
theorem px_sld (hx : p.tables.exec = Jvm.exec) (hb : c.code = cc) {b L i : Nat} {xs : Nat → Int32} (hX : va_X b L xs s H0) (hbl : b < H0.size) (hbA : ¬ A b) (hS : va_S A H0 H locs) (hi : i < L) (hn : L < 2 ^ 31) (hdg : decode cc pc = .ok (.iaload, 1))
    (kk : W p l e R s m args below meth c H locs cells slots Q (F0 m (pc + 1) ls (.int (xs i) :: rest))) : W p l e R s m args below meth c H locs cells slots Q (F0 m pc ls (.int (nI i) :: .ref b :: rest)) :=
  va_sld hx hb hX hbl hbA hS (vp_in_nI hi hn) hdg (by rw [nI_clamp (Nat.lt_trans hi hn)]; exact kk)
end PL
theorem pm_jn_of {n : Nat} {J : Nat → Nat → Bool} {a b : Int32} (hn : n < 2 ^ 31) (h : pm_jn n J a b = true) : ∃ x y : Nat, a = nI x ∧ b = nI y ∧ x < n ∧ y < n ∧ x ≠ y ∧ J x y = false := by
  simp [pm_jn] at h
  obtain ⟨⟨⟨h1, h2⟩, h3⟩, h4⟩ := h
  obtain ⟨x, hx, rfl⟩ := pm_pt_of hn h1
  obtain ⟨y, hy, rfl⟩ := pm_pt_of hn h2
  rw [nI_clamp (by omega), nI_clamp (by omega)] at h4
  exact ⟨x, y, rfl, rfl, hx, hy, fun q => h3 (by rw [q]), h4⟩
set_option maxHeartbeats 4000000 in
set_option maxRecDepth 100000 in
theorem law_loop {p : Program} {l : Launch} {e : Env} {s : State} {m : MethodId} {below : List Frame} {meth : Method} {c : Code} {D : va_G} {cI cJ cZ : ClassId} {b L : Nat} {xs : Nat → Int32} {ad bd : Nat → Nat} (hL : L ≤ 1536) (C0 : lw_At p s m meth c b L xs) (hne : ∀ i j, i < 9 → j < 7 → ad i ≠ bd j) (hK : va_K D vwCl (tyq cI cJ cZ) s) : ∀ (f i : Nat), L + 1 ≤ i + f → i ≤ L → ∀ {n k : Nat} {g : Bool} {J : Nat → Nat → Bool} {cst ws : Nat → Nat} {E : Nat → Int64} {G C Wi O IO NI CF PA C1 Wi1 CO RW IN : Nat → Int32} {H : Heap} {locs : List Loc}, pm_R n k g J cst ws E G C Wi O CF PA C1 Wi1 CO RW → va_P D vwCl (w0 cI cJ cZ ad (nI n) (nI k) (px_b g) E G C Wi O IO NI CF) H → va_P D vwCl (w1 cI cZ bd (nI n) (nI k) (px_b g) PA C1 Wi1 CO RW IN) H → va_D (fun q : Nat => s.heap.size ≤ q) (w0 cI cJ cZ ad (nI n) (nI k) (px_b g) E G C Wi O IO NI CF) → va_D (fun q : Nat => s.heap.size ≤ q) (w1 cI cZ bd (nI n) (nI k) (px_b g) PA C1 Wi1 CO RW IN) → va_S (fun q : Nat => s.heap.size ≤ q) s.heap H locs → ∀ ls : Array Slot, lv_has ls 4 [(3, .int (nI i)), (2, .ref (bd 0)), (1, .ref (ad 0)), (0, .ref b)] → W p l e room_1 s m #[Value.ref b] below meth c H locs 16 43220 (lw_Z below #[Value.ref b] s) (F0 m 18 ls []) := by
  obtain ⟨hx, hb, hr, hml, hown, hts, hX, hbl, hlocks, hgv⟩ := C0
  have hbA : ¬ (fun q : Nat => s.heap.size ≤ q) b := Nat.not_le.mpr hbl
  have hown : s.vm.findClass RL = some m.cls := hown
  have hts : ∀ w ∈ wsL_law, w.before #[Value.ref b] s = true := fun w h => hts w (wsL_law_in w h)
  have hb : c.code = cL_law := hb
  have S : CallFix p m c cL_law 4 s #[Value.ref b] wsL_law RL := ⟨hx, hb, hml, hown, hts⟩
  intro f
  induction f with
  | zero => intro i h1 h2; exact absurd h1 (by omega)
  | succ f ih =>
    intro i h1 h2 n k g J cst ws E G C Wi O IO NI CF PA C1 Wi1 CO RW IN H locs hR hP0 hP1 hD0 hD1 hS ls hl
    refine lv_iload_n hx hb dL_law_18 rfl (lv_at hl 0 rfl) ?_
    refine lv_aload_n hx hb dL_law_19 rfl (lv_at hl 3 rfl) ?_
    refine va_slen hx hb hX hbl hbA hS dL_law_20 ?_
    refine px_top (y := nI L) rfl ?_
    refine lv_iconst (v := nI 3) hx hb dL_law_21 (by decide +kernel) ?_
    refine lv_isub hx hb dL_law_22 ?_
    refine lv_icmp_gt (tgt := 354) hx hb dL_law_23 (by decide) (fun h23 => ?_) (fun h23 => ?_)
    · refine lv_iconst (v := 1) hx hb dL_law_354 (by decide +kernel) ?_
      refine va_forget (fun q hq => hS.2.2 q hq) ?_
      refine W.widen (k := 600000) (n := 7302250) (by decide +kernel) (by decide +kernel) ?_
      exact lw_ret hx hb hr hlocks dL_law_355
    rw [pm_head (by omega) (by omega)] at h23
    have cont : ∀ {n k : Nat} {g : Bool} {J : Nat → Nat → Bool} {cst ws : Nat → Nat} {E : Nat → Int64} {G C Wi O IO NI CF PA C1 Wi1 CO RW IN : Nat → Int32} {H : Heap} {locs : List Loc}, pm_R n k g J cst ws E G C Wi O CF PA C1 Wi1 CO RW → va_P D vwCl (w0 cI cJ cZ ad (nI n) (nI k) (px_b g) E G C Wi O IO NI CF) H → va_P D vwCl (w1 cI cZ bd (nI n) (nI k) (px_b g) PA C1 Wi1 CO RW IN) H → va_D (fun q : Nat => s.heap.size ≤ q) (w0 cI cJ cZ ad (nI n) (nI k) (px_b g) E G C Wi O IO NI CF) → va_D (fun q : Nat => s.heap.size ≤ q) (w1 cI cZ bd (nI n) (nI k) (px_b g) PA C1 Wi1 CO RW IN) → va_S (fun q : Nat => s.heap.size ≤ q) s.heap H locs → ∀ ls : Array Slot, lv_has ls 4 [(3, .int (nI i)), (2, .ref (bd 0)), (1, .ref (ad 0)), (0, .ref b)] → W p l e room_1 s m #[Value.ref b] below meth c H locs 16 43220 (lw_Z below #[Value.ref b] s) (F0 m 348 ls []) := by
      intro n k g J cst ws E G C Wi O IO NI CF PA C1 Wi1 CO RW IN H locs hR hP0 hP1 hD0 hD1 hS ls hl
      refine lv_iinc (v := nI (i + 3)) (lv' := [(3, .int (nI (i + 3))), (2, .ref (bd 0)), (1, .ref (ad 0)), (0, .ref b)]) hx hb dL_law_348 hl (k := 0) rfl (px_inc3 _) (by decide) rfl (fun ls hl => ?_)
      refine lv_goto (tgt := 18) hx hb dL_law_351 (by decide) ?_
      exact ih (i + 3) (by omega) (by omega) hR hP0 hP1 hD0 hD1 hS ls hl
    obtain ⟨⟨rn1, rn2, rk1, rk2⟩, r2, r3, r4, r5, r6, r7, r8, r9, r10, r11, r12⟩ := id hR
    refine lv_aload_n hx hb dL_law_26 rfl (lv_at hl 3 rfl) ?_
    refine lv_iload_n hx hb dL_law_27 rfl (lv_at hl 0 rfl) ?_
    refine px_sld hx hb hX hbl hbA hS (by omega) (by omega) dL_law_28 ?_
    refine lv_bipush (v := 15) hx hb dL_law_29 (by decide +kernel) ?_
    refine lv_iand hx hb dL_law_31 ?_
    obtain ⟨j, hj, ej⟩ := pk_andE (xs i) (m := 15) 4 (by decide +kernel)
    refine px_top (y := nI j) ej ?_
    rcases (show j = 0 ∨ j = 1 ∨ j = 2 ∨ j = 3 ∨ j = 4 ∨ j = 5 ∨ j = 6 ∨ j = 7 ∨ j = 8 ∨ j = 9 ∨ 10 ≤ j by omega) with rfl | rfl | rfl | rfl | rfl | rfl | rfl | rfl | rfl | rfl | hj10
    · refine lv_tableIn (tgt := 88) (off := 56) hx hb dL_law_32 (by decide +kernel) (by decide +kernel) (by decide +kernel) (by decide +kernel) ?_
      cases hq : pm_bg (xs (i + 1)) (xs (i + 2)) with
      | false =>
        refine lv_aload_n hx hb dL_law_88 rfl (lv_at hl 2 rfl) ?_
        refine lv_aload_n hx hb dL_law_89 rfl (lv_at hl 3 rfl) ?_
        refine lv_iload_n hx hb dL_law_90 rfl (lv_at hl 0 rfl) ?_
        refine lv_iconst (v := nI 1) hx hb dL_law_91 (by decide +kernel) ?_
        refine px_add hx hb dL_law_92 ?_
        refine px_sld (i := i + 1) hx hb hX hbl hbA hS (by omega) (by omega) dL_law_93 ?_
        refine lv_aload_n hx hb dL_law_94 rfl (lv_at hl 3 rfl) ?_
        refine lv_iload_n hx hb dL_law_95 rfl (lv_at hl 0 rfl) ?_
        refine lv_iconst (v := nI 2) hx hb dL_law_96 (by decide +kernel) ?_
        refine px_add hx hb dL_law_97 ?_
        refine px_sld (i := i + 2) hx hb hX hbl hbA hS (by omega) (by omega) dL_law_98 ?_
        refine px_rd (ci := 0) (q := (RX0, TX0, 11)) (v := px_b false) (rest := []) S hP0 hK (tX0_begin_no hq) (cwV 2 hts gL_law_X0_begin rfl rfl rfl (by decide +kernel) ⟨by decide +kernel, by decide +kernel⟩) rfl rfl rfl hl.1 rfl (Nat.le_of_ble_eq_true rfl) dL_law_99 ⟨by decide +kernel, by decide +kernel⟩ ?_
        refine lv_aload_n hx hb dL_law_102 rfl (lv_at hl 1 rfl) ?_
        refine lv_aload_n hx hb dL_law_103 rfl (lv_at hl 3 rfl) ?_
        refine lv_iload_n hx hb dL_law_104 rfl (lv_at hl 0 rfl) ?_
        refine lv_iconst (v := nI 1) hx hb dL_law_105 (by decide +kernel) ?_
        refine px_add hx hb dL_law_106 ?_
        refine px_sld (i := i + 1) hx hb hX hbl hbA hS (by omega) (by omega) dL_law_107 ?_
        refine lv_aload_n hx hb dL_law_108 rfl (lv_at hl 3 rfl) ?_
        refine lv_iload_n hx hb dL_law_109 rfl (lv_at hl 0 rfl) ?_
        refine lv_iconst (v := nI 2) hx hb dL_law_110 (by decide +kernel) ?_
        refine px_add hx hb dL_law_111 ?_
        refine px_sld (i := i + 2) hx hb hX hbl hbA hS (by omega) (by omega) dL_law_112 ?_
        refine px_rd (ci := 1) (q := (RX1, TX1, 9)) (v := px_b false) (rest := [.int (px_b false)]) S hP1 hK (tX1_begin_no hq) (cwV 2 hts gL_law_X1_begin rfl rfl rfl (by decide +kernel) ⟨by decide +kernel, by decide +kernel⟩) rfl rfl rfl hl.1 rfl (Nat.le_of_ble_eq_true rfl) dL_law_113 ⟨by decide +kernel, by decide +kernel⟩ ?_
        refine lv_icmp_eq (tgt := 348) hx hb dL_law_116 (by decide) (fun hq9 => ?_) (fun hq9 => ?_)
        · exact cont hR hP0 hP1 hD0 hD1 hS ls hl
        · exact absurd (rfl) hq9
      | true =>
        obtain ⟨x, y, e1, e2, g1, g2, g3, g4⟩ := pm_bg_of hq
        refine lv_aload_n hx hb dL_law_88 rfl (lv_at hl 2 rfl) ?_
        refine lv_aload_n hx hb dL_law_89 rfl (lv_at hl 3 rfl) ?_
        refine lv_iload_n hx hb dL_law_90 rfl (lv_at hl 0 rfl) ?_
        refine lv_iconst (v := nI 1) hx hb dL_law_91 (by decide +kernel) ?_
        refine px_add hx hb dL_law_92 ?_
        refine px_sld (i := i + 1) hx hb hX hbl hbA hS (by omega) (by omega) dL_law_93 ?_
        refine px_top (y := nI x) e1 ?_
        refine lv_aload_n hx hb dL_law_94 rfl (lv_at hl 3 rfl) ?_
        refine lv_iload_n hx hb dL_law_95 rfl (lv_at hl 0 rfl) ?_
        refine lv_iconst (v := nI 2) hx hb dL_law_96 (by decide +kernel) ?_
        refine px_add hx hb dL_law_97 ?_
        refine px_sld (i := i + 2) hx hb hX hbl hbA hS (by omega) (by omega) dL_law_98 ?_
        refine px_top (y := nI y) e2 ?_
        refine px_wi (ci := 0) (q := (RX0, TX0, 11)) (rest := []) S hP0 hK hD0 hS (tX0_begin_ok g1 g2 g3 g4) (fun _ => w0_same) (cwV 2 hts gL_law_X0_begin rfl rfl rfl (by decide +kernel) ⟨by decide +kernel, by decide +kernel⟩) rfl rfl rfl hl.1 rfl (Nat.le_of_ble_eq_true rfl) dL_law_99 ⟨by decide +kernel, by decide +kernel⟩ (fun r0 u0 H locs hr0 hP0 hD0 hS hk => ?_)
        have hP1 := px_other (A := fun _ => True) hP1 (px_sep01 hne) hk
        refine lv_aload_n hx hb dL_law_102 rfl (lv_at hl 1 rfl) ?_
        refine lv_aload_n hx hb dL_law_103 rfl (lv_at hl 3 rfl) ?_
        refine lv_iload_n hx hb dL_law_104 rfl (lv_at hl 0 rfl) ?_
        refine lv_iconst (v := nI 1) hx hb dL_law_105 (by decide +kernel) ?_
        refine px_add hx hb dL_law_106 ?_
        refine px_sld (i := i + 1) hx hb hX hbl hbA hS (by omega) (by omega) dL_law_107 ?_
        refine px_top (y := nI x) e1 ?_
        refine lv_aload_n hx hb dL_law_108 rfl (lv_at hl 3 rfl) ?_
        refine lv_iload_n hx hb dL_law_109 rfl (lv_at hl 0 rfl) ?_
        refine lv_iconst (v := nI 2) hx hb dL_law_110 (by decide +kernel) ?_
        refine px_add hx hb dL_law_111 ?_
        refine px_sld (i := i + 2) hx hb hX hbl hbA hS (by omega) (by omega) dL_law_112 ?_
        refine px_top (y := nI y) e2 ?_
        refine px_wi (ci := 1) (q := (RX1, TX1, 9)) (rest := [.int r0]) S hP1 hK hD1 hS (tX1_begin_ok g1 g2 g3 g4) (fun _ => w1_same) (cwV 2 hts gL_law_X1_begin rfl rfl rfl (by decide +kernel) ⟨by decide +kernel, by decide +kernel⟩) rfl rfl rfl hl.1 rfl (Nat.le_of_ble_eq_true rfl) dL_law_113 ⟨by decide +kernel, by decide +kernel⟩ (fun r1 u1 H locs hr1 hP1 hD1 hS hk => ?_)
        have hP0 := px_other (A := fun _ => True) hP0 (px_sep10 hne) hk
        refine lv_icmp_eq (tgt := 348) hx hb dL_law_116 (by decide) (fun hq9 => ?_) (fun hq9 => ?_)
        · exact cont (pm_R_begin g1 g2 g3 g4 O CF CO RW) hP0 hP1 hD0 hD1 hS ls hl
        · exact absurd (hr0.trans hr1.symm) hq9
    · refine lv_tableIn (tgt := 121) (off := 89) hx hb dL_law_32 (by decide +kernel) (by decide +kernel) (by decide +kernel) (by decide +kernel) ?_
      cases hq : pm_jn n J (xs (i + 1)) (xs (i + 2)) with
      | false =>
        refine lv_aload_n hx hb dL_law_121 rfl (lv_at hl 2 rfl) ?_
        refine lv_aload_n hx hb dL_law_122 rfl (lv_at hl 3 rfl) ?_
        refine lv_iload_n hx hb dL_law_123 rfl (lv_at hl 0 rfl) ?_
        refine lv_iconst (v := nI 1) hx hb dL_law_124 (by decide +kernel) ?_
        refine px_add hx hb dL_law_125 ?_
        refine px_sld (i := i + 1) hx hb hX hbl hbA hS (by omega) (by omega) dL_law_126 ?_
        refine lv_aload_n hx hb dL_law_127 rfl (lv_at hl 3 rfl) ?_
        refine lv_iload_n hx hb dL_law_128 rfl (lv_at hl 0 rfl) ?_
        refine lv_iconst (v := nI 2) hx hb dL_law_129 (by decide +kernel) ?_
        refine px_add hx hb dL_law_130 ?_
        refine px_sld (i := i + 2) hx hb hX hbl hbA hS (by omega) (by omega) dL_law_131 ?_
        refine px_rd (ci := 0) (q := (RX0, TX0, 11)) (v := px_b false) (rest := []) S hP0 hK (tX0_join_no J r3 rn2 hq) (cwV 2 hts gL_law_X0_join rfl rfl rfl (by decide +kernel) ⟨by decide +kernel, by decide +kernel⟩) rfl rfl rfl hl.1 rfl (Nat.le_of_ble_eq_true rfl) dL_law_132 ⟨by decide +kernel, by decide +kernel⟩ ?_
        refine lv_aload_n hx hb dL_law_135 rfl (lv_at hl 1 rfl) ?_
        refine lv_aload_n hx hb dL_law_136 rfl (lv_at hl 3 rfl) ?_
        refine lv_iload_n hx hb dL_law_137 rfl (lv_at hl 0 rfl) ?_
        refine lv_iconst (v := nI 1) hx hb dL_law_138 (by decide +kernel) ?_
        refine px_add hx hb dL_law_139 ?_
        refine px_sld (i := i + 1) hx hb hX hbl hbA hS (by omega) (by omega) dL_law_140 ?_
        refine lv_aload_n hx hb dL_law_141 rfl (lv_at hl 3 rfl) ?_
        refine lv_iload_n hx hb dL_law_142 rfl (lv_at hl 0 rfl) ?_
        refine lv_iconst (v := nI 2) hx hb dL_law_143 (by decide +kernel) ?_
        refine px_add hx hb dL_law_144 ?_
        refine px_sld (i := i + 2) hx hb hX hbl hbA hS (by omega) (by omega) dL_law_145 ?_
        refine px_rd (ci := 1) (q := (RX1, TX1, 9)) (v := px_b false) (rest := [.int (px_b false)]) S hP1 hK (tX1_join_no J r4 rn2 hq) (cwV 2 hts gL_law_X1_join rfl rfl rfl (by decide +kernel) ⟨by decide +kernel, by decide +kernel⟩) rfl rfl rfl hl.1 rfl (Nat.le_of_ble_eq_true rfl) dL_law_146 ⟨by decide +kernel, by decide +kernel⟩ ?_
        refine lv_icmp_eq (tgt := 348) hx hb dL_law_149 (by decide) (fun hq9 => ?_) (fun hq9 => ?_)
        · exact cont hR hP0 hP1 hD0 hD1 hS ls hl
        · exact absurd (rfl) hq9
      | true =>
        obtain ⟨x, y, e1, e2, g1, g2, g3, g4⟩ := pm_jn_of (by omega) hq
        refine lv_aload_n hx hb dL_law_121 rfl (lv_at hl 2 rfl) ?_
        refine lv_aload_n hx hb dL_law_122 rfl (lv_at hl 3 rfl) ?_
        refine lv_iload_n hx hb dL_law_123 rfl (lv_at hl 0 rfl) ?_
        refine lv_iconst (v := nI 1) hx hb dL_law_124 (by decide +kernel) ?_
        refine px_add hx hb dL_law_125 ?_
        refine px_sld (i := i + 1) hx hb hX hbl hbA hS (by omega) (by omega) dL_law_126 ?_
        refine px_top (y := nI x) e1 ?_
        refine lv_aload_n hx hb dL_law_127 rfl (lv_at hl 3 rfl) ?_
        refine lv_iload_n hx hb dL_law_128 rfl (lv_at hl 0 rfl) ?_
        refine lv_iconst (v := nI 2) hx hb dL_law_129 (by decide +kernel) ?_
        refine px_add hx hb dL_law_130 ?_
        refine px_sld (i := i + 2) hx hb hX hbl hbA hS (by omega) (by omega) dL_law_131 ?_
        refine px_top (y := nI y) e2 ?_
        refine px_wi (ci := 0) (q := (RX0, TX0, 11)) (rest := []) S hP0 hK hD0 hS (tX0_join_ok J r3 rn2 x y g1 g2 g3 g4) (fun _ => w0_same) (cwV 2 hts gL_law_X0_join rfl rfl rfl (by decide +kernel) ⟨by decide +kernel, by decide +kernel⟩) rfl rfl rfl hl.1 rfl (Nat.le_of_ble_eq_true rfl) dL_law_132 ⟨by decide +kernel, by decide +kernel⟩ (fun r0 u0 H locs hr0 hP0 hD0 hS hk => ?_)
        have hP1 := px_other (A := fun _ => True) hP1 (px_sep01 hne) hk
        refine lv_aload_n hx hb dL_law_135 rfl (lv_at hl 1 rfl) ?_
        refine lv_aload_n hx hb dL_law_136 rfl (lv_at hl 3 rfl) ?_
        refine lv_iload_n hx hb dL_law_137 rfl (lv_at hl 0 rfl) ?_
        refine lv_iconst (v := nI 1) hx hb dL_law_138 (by decide +kernel) ?_
        refine px_add hx hb dL_law_139 ?_
        refine px_sld (i := i + 1) hx hb hX hbl hbA hS (by omega) (by omega) dL_law_140 ?_
        refine px_top (y := nI x) e1 ?_
        refine lv_aload_n hx hb dL_law_141 rfl (lv_at hl 3 rfl) ?_
        refine lv_iload_n hx hb dL_law_142 rfl (lv_at hl 0 rfl) ?_
        refine lv_iconst (v := nI 2) hx hb dL_law_143 (by decide +kernel) ?_
        refine px_add hx hb dL_law_144 ?_
        refine px_sld (i := i + 2) hx hb hX hbl hbA hS (by omega) (by omega) dL_law_145 ?_
        refine px_top (y := nI y) e2 ?_
        refine px_wi (ci := 1) (q := (RX1, TX1, 9)) (rest := [.int r0]) S hP1 hK hD1 hS (tX1_join_ok J r4 rn2 x y g1 g2 g3 g4) (fun _ => w1_same) (cwV 2 hts gL_law_X1_join rfl rfl rfl (by decide +kernel) ⟨by decide +kernel, by decide +kernel⟩) rfl rfl rfl hl.1 rfl (Nat.le_of_ble_eq_true rfl) dL_law_146 ⟨by decide +kernel, by decide +kernel⟩ (fun r1 u1 H locs hr1 hP1 hD1 hS hk => ?_)
        have hP0 := px_other (A := fun _ => True) hP0 (px_sep10 hne) hk
        refine lv_icmp_eq (tgt := 348) hx hb dL_law_149 (by decide) (fun hq9 => ?_) (fun hq9 => ?_)
        · exact cont (pm_R_join hR g1 g2 g3 g4) hP0 hP1 hD0 hD1 hS ls hl
        · exact absurd (hr0.trans hr1.symm) hq9
    · refine lv_tableIn (tgt := 154) (off := 122) hx hb dL_law_32 (by decide +kernel) (by decide +kernel) (by decide +kernel) (by decide +kernel) ?_
      cases hq : pm_co n (xs (i + 1)) (xs (i + 2)) with
      | false =>
        refine lv_aload_n hx hb dL_law_154 rfl (lv_at hl 2 rfl) ?_
        refine lv_aload_n hx hb dL_law_155 rfl (lv_at hl 3 rfl) ?_
        refine lv_iload_n hx hb dL_law_156 rfl (lv_at hl 0 rfl) ?_
        refine lv_iconst (v := nI 1) hx hb dL_law_157 (by decide +kernel) ?_
        refine px_add hx hb dL_law_158 ?_
        refine px_sld (i := i + 1) hx hb hX hbl hbA hS (by omega) (by omega) dL_law_159 ?_
        refine lv_aload_n hx hb dL_law_160 rfl (lv_at hl 3 rfl) ?_
        refine lv_iload_n hx hb dL_law_161 rfl (lv_at hl 0 rfl) ?_
        refine lv_iconst (v := nI 2) hx hb dL_law_162 (by decide +kernel) ?_
        refine px_add hx hb dL_law_163 ?_
        refine px_sld (i := i + 2) hx hb hX hbl hbA hS (by omega) (by omega) dL_law_164 ?_
        refine px_rd (ci := 0) (q := (RX0, TX0, 11)) (v := px_b false) (rest := []) S hP0 hK (tX0_cost_no rn2 hq) (cwV 2 hts gL_law_X0_cost rfl rfl rfl (by decide +kernel) ⟨by decide +kernel, by decide +kernel⟩) rfl rfl rfl hl.1 rfl (Nat.le_of_ble_eq_true rfl) dL_law_165 ⟨by decide +kernel, by decide +kernel⟩ ?_
        refine lv_aload_n hx hb dL_law_168 rfl (lv_at hl 1 rfl) ?_
        refine lv_aload_n hx hb dL_law_169 rfl (lv_at hl 3 rfl) ?_
        refine lv_iload_n hx hb dL_law_170 rfl (lv_at hl 0 rfl) ?_
        refine lv_iconst (v := nI 1) hx hb dL_law_171 (by decide +kernel) ?_
        refine px_add hx hb dL_law_172 ?_
        refine px_sld (i := i + 1) hx hb hX hbl hbA hS (by omega) (by omega) dL_law_173 ?_
        refine lv_aload_n hx hb dL_law_174 rfl (lv_at hl 3 rfl) ?_
        refine lv_iload_n hx hb dL_law_175 rfl (lv_at hl 0 rfl) ?_
        refine lv_iconst (v := nI 2) hx hb dL_law_176 (by decide +kernel) ?_
        refine px_add hx hb dL_law_177 ?_
        refine px_sld (i := i + 2) hx hb hX hbl hbA hS (by omega) (by omega) dL_law_178 ?_
        refine px_rd (ci := 1) (q := (RX1, TX1, 9)) (v := px_b false) (rest := [.int (px_b false)]) S hP1 hK (tX1_cost_no rn2 hq) (cwV 2 hts gL_law_X1_cost rfl rfl rfl (by decide +kernel) ⟨by decide +kernel, by decide +kernel⟩) rfl rfl rfl hl.1 rfl (Nat.le_of_ble_eq_true rfl) dL_law_179 ⟨by decide +kernel, by decide +kernel⟩ ?_
        refine lv_icmp_eq (tgt := 348) hx hb dL_law_182 (by decide) (fun hq9 => ?_) (fun hq9 => ?_)
        · exact cont hR hP0 hP1 hD0 hD1 hS ls hl
        · exact absurd (rfl) hq9
      | true =>
        obtain ⟨x, y, e1, e2, g1, g2⟩ := pm_co_of (by omega) hq
        refine lv_aload_n hx hb dL_law_154 rfl (lv_at hl 2 rfl) ?_
        refine lv_aload_n hx hb dL_law_155 rfl (lv_at hl 3 rfl) ?_
        refine lv_iload_n hx hb dL_law_156 rfl (lv_at hl 0 rfl) ?_
        refine lv_iconst (v := nI 1) hx hb dL_law_157 (by decide +kernel) ?_
        refine px_add hx hb dL_law_158 ?_
        refine px_sld (i := i + 1) hx hb hX hbl hbA hS (by omega) (by omega) dL_law_159 ?_
        refine px_top (y := nI x) e1 ?_
        refine lv_aload_n hx hb dL_law_160 rfl (lv_at hl 3 rfl) ?_
        refine lv_iload_n hx hb dL_law_161 rfl (lv_at hl 0 rfl) ?_
        refine lv_iconst (v := nI 2) hx hb dL_law_162 (by decide +kernel) ?_
        refine px_add hx hb dL_law_163 ?_
        refine px_sld (i := i + 2) hx hb hX hbl hbA hS (by omega) (by omega) dL_law_164 ?_
        refine px_top (y := nI y) e2 ?_
        refine px_wi (ci := 0) (q := (RX0, TX0, 11)) (rest := []) S hP0 hK hD0 hS (tX0_cost_ok rn2 x y g1 g2) (fun _ => w0_same) (cwV 2 hts gL_law_X0_cost rfl rfl rfl (by decide +kernel) ⟨by decide +kernel, by decide +kernel⟩) rfl rfl rfl hl.1 rfl (Nat.le_of_ble_eq_true rfl) dL_law_165 ⟨by decide +kernel, by decide +kernel⟩ (fun r0 u0 H locs hr0 hP0 hD0 hS hk => ?_)
        have hP1 := px_other (A := fun _ => True) hP1 (px_sep01 hne) hk
        refine lv_aload_n hx hb dL_law_168 rfl (lv_at hl 1 rfl) ?_
        refine lv_aload_n hx hb dL_law_169 rfl (lv_at hl 3 rfl) ?_
        refine lv_iload_n hx hb dL_law_170 rfl (lv_at hl 0 rfl) ?_
        refine lv_iconst (v := nI 1) hx hb dL_law_171 (by decide +kernel) ?_
        refine px_add hx hb dL_law_172 ?_
        refine px_sld (i := i + 1) hx hb hX hbl hbA hS (by omega) (by omega) dL_law_173 ?_
        refine px_top (y := nI x) e1 ?_
        refine lv_aload_n hx hb dL_law_174 rfl (lv_at hl 3 rfl) ?_
        refine lv_iload_n hx hb dL_law_175 rfl (lv_at hl 0 rfl) ?_
        refine lv_iconst (v := nI 2) hx hb dL_law_176 (by decide +kernel) ?_
        refine px_add hx hb dL_law_177 ?_
        refine px_sld (i := i + 2) hx hb hX hbl hbA hS (by omega) (by omega) dL_law_178 ?_
        refine px_top (y := nI y) e2 ?_
        refine px_wi (ci := 1) (q := (RX1, TX1, 9)) (rest := [.int r0]) S hP1 hK hD1 hS (tX1_cost_ok rn2 x y g1 g2) (fun _ => w1_same) (cwV 2 hts gL_law_X1_cost rfl rfl rfl (by decide +kernel) ⟨by decide +kernel, by decide +kernel⟩) rfl rfl rfl hl.1 rfl (Nat.le_of_ble_eq_true rfl) dL_law_179 ⟨by decide +kernel, by decide +kernel⟩ (fun r1 u1 H locs hr1 hP1 hD1 hS hk => ?_)
        have hP0 := px_other (A := fun _ => True) hP0 (px_sep10 hne) hk
        refine lv_icmp_eq (tgt := 348) hx hb dL_law_182 (by decide) (fun hq9 => ?_) (fun hq9 => ?_)
        · exact cont (pm_R_cost hR g2) hP0 hP1 hD0 hD1 hS ls hl
        · exact absurd (hr0.trans hr1.symm) hq9
    · refine lv_tableIn (tgt := 187) (off := 155) hx hb dL_law_32 (by decide +kernel) (by decide +kernel) (by decide +kernel) (by decide +kernel) ?_
      cases hq : (pm_pt n (xs (i + 1)) && pm_pt n (xs (i + 2))) with
      | false =>
        refine lv_aload_n hx hb dL_law_187 rfl (lv_at hl 2 rfl) ?_
        refine lv_aload_n hx hb dL_law_188 rfl (lv_at hl 3 rfl) ?_
        refine lv_iload_n hx hb dL_law_189 rfl (lv_at hl 0 rfl) ?_
        refine lv_iconst (v := nI 1) hx hb dL_law_190 (by decide +kernel) ?_
        refine px_add hx hb dL_law_191 ?_
        refine px_sld (i := i + 1) hx hb hX hbl hbA hS (by omega) (by omega) dL_law_192 ?_
        refine lv_aload_n hx hb dL_law_193 rfl (lv_at hl 3 rfl) ?_
        refine lv_iload_n hx hb dL_law_194 rfl (lv_at hl 0 rfl) ?_
        refine lv_iconst (v := nI 2) hx hb dL_law_195 (by decide +kernel) ?_
        refine px_add hx hb dL_law_196 ?_
        refine px_sld (i := i + 2) hx hb hX hbl hbA hS (by omega) (by omega) dL_law_197 ?_
        refine px_rd (ci := 0) (q := (RX0, TX0, 11)) (v := px_b false) (rest := []) S hP0 hK (tX0_wish_no rn2 hq) (cwV 2 hts gL_law_X0_wish rfl rfl rfl (by decide +kernel) ⟨by decide +kernel, by decide +kernel⟩) rfl rfl rfl hl.1 rfl (Nat.le_of_ble_eq_true rfl) dL_law_198 ⟨by decide +kernel, by decide +kernel⟩ ?_
        refine lv_aload_n hx hb dL_law_201 rfl (lv_at hl 1 rfl) ?_
        refine lv_aload_n hx hb dL_law_202 rfl (lv_at hl 3 rfl) ?_
        refine lv_iload_n hx hb dL_law_203 rfl (lv_at hl 0 rfl) ?_
        refine lv_iconst (v := nI 1) hx hb dL_law_204 (by decide +kernel) ?_
        refine px_add hx hb dL_law_205 ?_
        refine px_sld (i := i + 1) hx hb hX hbl hbA hS (by omega) (by omega) dL_law_206 ?_
        refine lv_aload_n hx hb dL_law_207 rfl (lv_at hl 3 rfl) ?_
        refine lv_iload_n hx hb dL_law_208 rfl (lv_at hl 0 rfl) ?_
        refine lv_iconst (v := nI 2) hx hb dL_law_209 (by decide +kernel) ?_
        refine px_add hx hb dL_law_210 ?_
        refine px_sld (i := i + 2) hx hb hX hbl hbA hS (by omega) (by omega) dL_law_211 ?_
        refine px_rd (ci := 1) (q := (RX1, TX1, 9)) (v := px_b false) (rest := [.int (px_b false)]) S hP1 hK (tX1_wish_no rn2 hq) (cwV 2 hts gL_law_X1_wish rfl rfl rfl (by decide +kernel) ⟨by decide +kernel, by decide +kernel⟩) rfl rfl rfl hl.1 rfl (Nat.le_of_ble_eq_true rfl) dL_law_212 ⟨by decide +kernel, by decide +kernel⟩ ?_
        refine lv_icmp_eq (tgt := 348) hx hb dL_law_215 (by decide) (fun hq9 => ?_) (fun hq9 => ?_)
        · exact cont hR hP0 hP1 hD0 hD1 hS ls hl
        · exact absurd (rfl) hq9
      | true =>
        rw [Bool.and_eq_true] at hq
        obtain ⟨x, g1, e1⟩ := pm_pt_of (by omega) hq.1
        obtain ⟨y, g2, e2⟩ := pm_pt_of (by omega) hq.2
        refine lv_aload_n hx hb dL_law_187 rfl (lv_at hl 2 rfl) ?_
        refine lv_aload_n hx hb dL_law_188 rfl (lv_at hl 3 rfl) ?_
        refine lv_iload_n hx hb dL_law_189 rfl (lv_at hl 0 rfl) ?_
        refine lv_iconst (v := nI 1) hx hb dL_law_190 (by decide +kernel) ?_
        refine px_add hx hb dL_law_191 ?_
        refine px_sld (i := i + 1) hx hb hX hbl hbA hS (by omega) (by omega) dL_law_192 ?_
        refine px_top (y := nI x) e1 ?_
        refine lv_aload_n hx hb dL_law_193 rfl (lv_at hl 3 rfl) ?_
        refine lv_iload_n hx hb dL_law_194 rfl (lv_at hl 0 rfl) ?_
        refine lv_iconst (v := nI 2) hx hb dL_law_195 (by decide +kernel) ?_
        refine px_add hx hb dL_law_196 ?_
        refine px_sld (i := i + 2) hx hb hX hbl hbA hS (by omega) (by omega) dL_law_197 ?_
        refine px_top (y := nI y) e2 ?_
        refine px_wi (ci := 0) (q := (RX0, TX0, 11)) (rest := []) S hP0 hK hD0 hS (tX0_wish_ok rn2 x y g1 g2) (fun _ => w0_same) (cwV 2 hts gL_law_X0_wish rfl rfl rfl (by decide +kernel) ⟨by decide +kernel, by decide +kernel⟩) rfl rfl rfl hl.1 rfl (Nat.le_of_ble_eq_true rfl) dL_law_198 ⟨by decide +kernel, by decide +kernel⟩ (fun r0 u0 H locs hr0 hP0 hD0 hS hk => ?_)
        have hP1 := px_other (A := fun _ => True) hP1 (px_sep01 hne) hk
        refine lv_aload_n hx hb dL_law_201 rfl (lv_at hl 1 rfl) ?_
        refine lv_aload_n hx hb dL_law_202 rfl (lv_at hl 3 rfl) ?_
        refine lv_iload_n hx hb dL_law_203 rfl (lv_at hl 0 rfl) ?_
        refine lv_iconst (v := nI 1) hx hb dL_law_204 (by decide +kernel) ?_
        refine px_add hx hb dL_law_205 ?_
        refine px_sld (i := i + 1) hx hb hX hbl hbA hS (by omega) (by omega) dL_law_206 ?_
        refine px_top (y := nI x) e1 ?_
        refine lv_aload_n hx hb dL_law_207 rfl (lv_at hl 3 rfl) ?_
        refine lv_iload_n hx hb dL_law_208 rfl (lv_at hl 0 rfl) ?_
        refine lv_iconst (v := nI 2) hx hb dL_law_209 (by decide +kernel) ?_
        refine px_add hx hb dL_law_210 ?_
        refine px_sld (i := i + 2) hx hb hX hbl hbA hS (by omega) (by omega) dL_law_211 ?_
        refine px_top (y := nI y) e2 ?_
        refine px_wi (ci := 1) (q := (RX1, TX1, 9)) (rest := [.int r0]) S hP1 hK hD1 hS (tX1_wish_ok rn2 x y g1 g2) (fun _ => w1_same) (cwV 2 hts gL_law_X1_wish rfl rfl rfl (by decide +kernel) ⟨by decide +kernel, by decide +kernel⟩) rfl rfl rfl hl.1 rfl (Nat.le_of_ble_eq_true rfl) dL_law_212 ⟨by decide +kernel, by decide +kernel⟩ (fun r1 u1 H locs hr1 hP1 hD1 hS hk => ?_)
        have hP0 := px_other (A := fun _ => True) hP0 (px_sep10 hne) hk
        refine lv_icmp_eq (tgt := 348) hx hb dL_law_215 (by decide) (fun hq9 => ?_) (fun hq9 => ?_)
        · exact cont (pm_R_wish hR g2) hP0 hP1 hD0 hD1 hS ls hl
        · exact absurd (hr0.trans hr1.symm) hq9
    · refine lv_tableIn (tgt := 220) (off := 188) hx hb dL_law_32 (by decide +kernel) (by decide +kernel) (by decide +kernel) (by decide +kernel) ?_
      refine lv_aload_n hx hb dL_law_220 rfl (lv_at hl 2 rfl) ?_
      refine px_wi (ci := 0) (q := (RX0, TX0, 11)) (rest := []) S hP0 hK hD0 hS (tX0_give J r3 r2 cst ws rn2 rk2 r5 r6 r8 r9 r10) (fun _ => w0_same) (cwV 0 hts gL_law_X0_give rfl rfl rfl (by decide +kernel) ⟨by decide +kernel, by decide +kernel⟩) rfl rfl rfl hl.1 rfl (Nat.le_of_ble_eq_true rfl) dL_law_221 ⟨by decide +kernel, by decide +kernel⟩ (fun r0 u0 H locs hr0 hP0 hD0 hS hk => ?_)
      have hP1 := px_other (A := fun _ => True) hP1 (px_sep01 hne) hk
      refine lv_aload_n hx hb dL_law_224 rfl (lv_at hl 1 rfl) ?_
      refine px_wi (ci := 1) (q := (RX1, TX1, 9)) (rest := [.int r0]) S hP1 hK hD1 hS (tX1_give J r4 cst ws rn2 rk2 r7 r8 r9 r11) (fun _ => w1_same) (cwV 0 hts gL_law_X1_give rfl rfl rfl (by decide +kernel) ⟨by decide +kernel, by decide +kernel⟩) rfl rfl rfl hl.1 rfl (Nat.le_of_ble_eq_true rfl) dL_law_225 ⟨by decide +kernel, by decide +kernel⟩ (fun r1 u1 H locs hr1 hP1 hD1 hS hk => ?_)
      have hP0 := px_other (A := fun _ => True) hP0 (px_sep10 hne) hk
      refine lv_icmp_eq (tgt := 348) hx hb dL_law_228 (by decide) (fun hq9 => ?_) (fun hq9 => ?_)
      · exact cont (pm_R_give hR hr0.2 hr1.2.2 hr1.2.1) hP0 hP1 hD0 hD1 hS ls hl
      · exact absurd (by rw [hr0.1, hr1.1, pm_nn_cn rk2]) hq9
    · refine lv_tableIn (tgt := 233) (off := 201) hx hb dL_law_32 (by decide +kernel) (by decide +kernel) (by decide +kernel) (by decide +kernel) ?_
      refine lv_aload_n hx hb dL_law_233 rfl (lv_at hl 2 rfl) ?_
      refine lv_aload_n hx hb dL_law_234 rfl (lv_at hl 3 rfl) ?_
      refine lv_iload_n hx hb dL_law_235 rfl (lv_at hl 0 rfl) ?_
      refine lv_iconst (v := nI 1) hx hb dL_law_236 (by decide +kernel) ?_
      refine px_add hx hb dL_law_237 ?_
      refine px_sld (i := i + 1) hx hb hX hbl hbA hS (by omega) (by omega) dL_law_238 ?_
      refine px_rd (ci := 0) (q := (RX0, TX0, 11)) (v := pm_rd g n CF (xs (i + 1))) (rest := []) S hP0 hK (tX0_colour rn2 (xs (i + 1))) (cwV 1 hts gL_law_X0_colour rfl rfl rfl (by decide +kernel) ⟨by decide +kernel, by decide +kernel⟩) rfl rfl rfl hl.1 rfl (Nat.le_of_ble_eq_true rfl) dL_law_239 ⟨by decide +kernel, by decide +kernel⟩ ?_
      refine lv_aload_n hx hb dL_law_242 rfl (lv_at hl 1 rfl) ?_
      refine lv_aload_n hx hb dL_law_243 rfl (lv_at hl 3 rfl) ?_
      refine lv_iload_n hx hb dL_law_244 rfl (lv_at hl 0 rfl) ?_
      refine lv_iconst (v := nI 1) hx hb dL_law_245 (by decide +kernel) ?_
      refine px_add hx hb dL_law_246 ?_
      refine px_sld (i := i + 1) hx hb hX hbl hbA hS (by omega) (by omega) dL_law_247 ?_
      refine px_rd (ci := 1) (q := (RX1, TX1, 9)) (v := pm_rd g n CO (xs (i + 1))) (rest := [.int (pm_rd g n CF (xs (i + 1)))]) S hP1 hK (tX1_colour rn2 (xs (i + 1))) (cwV 1 hts gL_law_X1_colour rfl rfl rfl (by decide +kernel) ⟨by decide +kernel, by decide +kernel⟩) rfl rfl rfl hl.1 rfl (Nat.le_of_ble_eq_true rfl) dL_law_248 ⟨by decide +kernel, by decide +kernel⟩ ?_
      refine lv_icmp_eq (tgt := 348) hx hb dL_law_251 (by decide) (fun hq9 => ?_) (fun hq9 => ?_)
      · exact cont hR hP0 hP1 hD0 hD1 hS ls hl
      · exact absurd (pm_rd_congr (by omega) (fun q => (r12 q).2.1) _) hq9
    · refine lv_tableIn (tgt := 256) (off := 224) hx hb dL_law_32 (by decide +kernel) (by decide +kernel) (by decide +kernel) (by decide +kernel) ?_
      refine lv_aload_n hx hb dL_law_256 rfl (lv_at hl 2 rfl) ?_
      refine lv_aload_n hx hb dL_law_257 rfl (lv_at hl 3 rfl) ?_
      refine lv_iload_n hx hb dL_law_258 rfl (lv_at hl 0 rfl) ?_
      refine lv_iconst (v := nI 1) hx hb dL_law_259 (by decide +kernel) ?_
      refine px_add hx hb dL_law_260 ?_
      refine px_sld (i := i + 1) hx hb hX hbl hbA hS (by omega) (by omega) dL_law_261 ?_
      refine px_rd (ci := 0) (q := (RX0, TX0, 11)) (v := pm_rd g n O (xs (i + 1))) (rest := []) S hP0 hK (tX0_taken rn2 (xs (i + 1))) (cwV 1 hts gL_law_X0_taken rfl rfl rfl (by decide +kernel) ⟨by decide +kernel, by decide +kernel⟩) rfl rfl rfl hl.1 rfl (Nat.le_of_ble_eq_true rfl) dL_law_262 ⟨by decide +kernel, by decide +kernel⟩ ?_
      refine lv_aload_n hx hb dL_law_265 rfl (lv_at hl 1 rfl) ?_
      refine lv_aload_n hx hb dL_law_266 rfl (lv_at hl 3 rfl) ?_
      refine lv_iload_n hx hb dL_law_267 rfl (lv_at hl 0 rfl) ?_
      refine lv_iconst (v := nI 1) hx hb dL_law_268 (by decide +kernel) ?_
      refine px_add hx hb dL_law_269 ?_
      refine px_sld (i := i + 1) hx hb hX hbl hbA hS (by omega) (by omega) dL_law_270 ?_
      refine px_rd (ci := 1) (q := (RX1, TX1, 9)) (v := pm_rd g n RW (xs (i + 1))) (rest := [.int (pm_rd g n O (xs (i + 1)))]) S hP1 hK (tX1_taken rn2 (xs (i + 1))) (cwV 1 hts gL_law_X1_taken rfl rfl rfl (by decide +kernel) ⟨by decide +kernel, by decide +kernel⟩) rfl rfl rfl hl.1 rfl (Nat.le_of_ble_eq_true rfl) dL_law_271 ⟨by decide +kernel, by decide +kernel⟩ ?_
      refine lv_icmp_eq (tgt := 348) hx hb dL_law_274 (by decide) (fun hq9 => ?_) (fun hq9 => ?_)
      · exact cont hR hP0 hP1 hD0 hD1 hS ls hl
      · exact absurd (pm_rd_congr (by omega) (fun q => (r12 q).1) _) hq9
    · refine lv_tableIn (tgt := 279) (off := 247) hx hb dL_law_32 (by decide +kernel) (by decide +kernel) (by decide +kernel) (by decide +kernel) ?_
      refine lv_aload_n hx hb dL_law_279 rfl (lv_at hl 2 rfl) ?_
      refine lv_aload_n hx hb dL_law_280 rfl (lv_at hl 3 rfl) ?_
      refine lv_iload_n hx hb dL_law_281 rfl (lv_at hl 0 rfl) ?_
      refine lv_iconst (v := nI 1) hx hb dL_law_282 (by decide +kernel) ?_
      refine px_add hx hb dL_law_283 ?_
      refine px_sld (i := i + 1) hx hb hX hbl hbA hS (by omega) (by omega) dL_law_284 ?_
      refine lv_aload_n hx hb dL_law_285 rfl (lv_at hl 3 rfl) ?_
      refine lv_iload_n hx hb dL_law_286 rfl (lv_at hl 0 rfl) ?_
      refine lv_iconst (v := nI 2) hx hb dL_law_287 (by decide +kernel) ?_
      refine px_add hx hb dL_law_288 ?_
      refine px_sld (i := i + 2) hx hb hX hbl hbA hS (by omega) (by omega) dL_law_289 ?_
      refine px_rd (ci := 0) (q := (RX0, TX0, 11)) (v := px_b (pm_jd n J (xs (i + 1)) (xs (i + 2)))) (rest := []) S hP0 hK (tX0_joined J r3 rn2 (xs (i + 1)) (xs (i + 2))) (cwV 2 hts gL_law_X0_joined rfl rfl rfl (by decide +kernel) ⟨by decide +kernel, by decide +kernel⟩) rfl rfl rfl hl.1 rfl (Nat.le_of_ble_eq_true rfl) dL_law_290 ⟨by decide +kernel, by decide +kernel⟩ ?_
      refine lv_aload_n hx hb dL_law_293 rfl (lv_at hl 1 rfl) ?_
      refine lv_aload_n hx hb dL_law_294 rfl (lv_at hl 3 rfl) ?_
      refine lv_iload_n hx hb dL_law_295 rfl (lv_at hl 0 rfl) ?_
      refine lv_iconst (v := nI 1) hx hb dL_law_296 (by decide +kernel) ?_
      refine px_add hx hb dL_law_297 ?_
      refine px_sld (i := i + 1) hx hb hX hbl hbA hS (by omega) (by omega) dL_law_298 ?_
      refine lv_aload_n hx hb dL_law_299 rfl (lv_at hl 3 rfl) ?_
      refine lv_iload_n hx hb dL_law_300 rfl (lv_at hl 0 rfl) ?_
      refine lv_iconst (v := nI 2) hx hb dL_law_301 (by decide +kernel) ?_
      refine px_add hx hb dL_law_302 ?_
      refine px_sld (i := i + 2) hx hb hX hbl hbA hS (by omega) (by omega) dL_law_303 ?_
      refine px_rd (ci := 1) (q := (RX1, TX1, 9)) (v := px_b (pm_jd n J (xs (i + 1)) (xs (i + 2)))) (rest := [.int (px_b (pm_jd n J (xs (i + 1)) (xs (i + 2))))]) S hP1 hK (tX1_joined J r4 rn2 (xs (i + 1)) (xs (i + 2))) (cwV 2 hts gL_law_X1_joined rfl rfl rfl (by decide +kernel) ⟨by decide +kernel, by decide +kernel⟩) rfl rfl rfl hl.1 rfl (Nat.le_of_ble_eq_true rfl) dL_law_304 ⟨by decide +kernel, by decide +kernel⟩ ?_
      refine lv_icmp_eq (tgt := 348) hx hb dL_law_307 (by decide) (fun hq9 => ?_) (fun hq9 => ?_)
      · exact cont hR hP0 hP1 hD0 hD1 hS ls hl
      · exact absurd (rfl) hq9
    · refine lv_tableIn (tgt := 312) (off := 280) hx hb dL_law_32 (by decide +kernel) (by decide +kernel) (by decide +kernel) (by decide +kernel) ?_
      refine lv_aload_n hx hb dL_law_312 rfl (lv_at hl 2 rfl) ?_
      refine lv_aload_n hx hb dL_law_313 rfl (lv_at hl 3 rfl) ?_
      refine lv_iload_n hx hb dL_law_314 rfl (lv_at hl 0 rfl) ?_
      refine lv_iconst (v := nI 1) hx hb dL_law_315 (by decide +kernel) ?_
      refine px_add hx hb dL_law_316 ?_
      refine px_sld (i := i + 1) hx hb hX hbl hbA hS (by omega) (by omega) dL_law_317 ?_
      refine px_rd (ci := 0) (q := (RX0, TX0, 11)) (v := pm_rd true n G (xs (i + 1))) (rest := []) S hP0 hK (tX0_degree rn2 (xs (i + 1))) (cwV 1 hts gL_law_X0_degree rfl rfl rfl (by decide +kernel) ⟨by decide +kernel, by decide +kernel⟩) rfl rfl rfl hl.1 rfl (Nat.le_of_ble_eq_true rfl) dL_law_318 ⟨by decide +kernel, by decide +kernel⟩ ?_
      refine lv_aload_n hx hb dL_law_321 rfl (lv_at hl 1 rfl) ?_
      refine lv_aload_n hx hb dL_law_322 rfl (lv_at hl 3 rfl) ?_
      refine lv_iload_n hx hb dL_law_323 rfl (lv_at hl 0 rfl) ?_
      refine lv_iconst (v := nI 1) hx hb dL_law_324 (by decide +kernel) ?_
      refine px_add hx hb dL_law_325 ?_
      refine px_sld (i := i + 1) hx hb hX hbl hbA hS (by omega) (by omega) dL_law_326 ?_
      refine px_rd (ci := 1) (q := (RX1, TX1, 9)) (v := pm_rd true n (fun a => nI (pm_cn (J a) n)) (xs (i + 1))) (rest := [.int (pm_rd true n G (xs (i + 1)))]) S hP1 hK (tX1_degree J r4 rn2 (xs (i + 1))) (cwV 1 hts gL_law_X1_degree rfl rfl rfl (by decide +kernel) ⟨by decide +kernel, by decide +kernel⟩) rfl rfl rfl hl.1 rfl (Nat.le_of_ble_eq_true rfl) dL_law_327 ⟨by decide +kernel, by decide +kernel⟩ ?_
      refine lv_icmp_eq (tgt := 348) hx hb dL_law_330 (by decide) (fun hq9 => ?_) (fun hq9 => ?_)
      · exact cont hR hP0 hP1 hD0 hD1 hS ls hl
      · exact absurd (pm_rd_congr (by omega) (fun _ => r5) _) hq9
    · refine lv_tableIn (tgt := 335) (off := 303) hx hb dL_law_32 (by decide +kernel) (by decide +kernel) (by decide +kernel) (by decide +kernel) ?_
      refine lv_aload_n hx hb dL_law_335 rfl (lv_at hl 2 rfl) ?_
      refine px_rd (ci := 0) (q := (RX0, TX0, 11)) (v := nI (if g = true then pm_st J CF n else 0)) (rest := []) S hP0 hK (tX0_strays J r3 rn2) (cwV 0 hts gL_law_X0_strays rfl rfl rfl (by decide +kernel) ⟨by decide +kernel, by decide +kernel⟩) rfl rfl rfl hl.1 rfl (Nat.le_of_ble_eq_true rfl) dL_law_336 ⟨by decide +kernel, by decide +kernel⟩ ?_
      refine lv_aload_n hx hb dL_law_339 rfl (lv_at hl 1 rfl) ?_
      refine px_rd (ci := 1) (q := (RX1, TX1, 9)) (v := nI (if g = true then pm_st J CO n else 0)) (rest := [.int (nI (if g = true then pm_st J CF n else 0))]) S hP1 hK (tX1_strays J r4 rn2 rn1 rk2 (fun q => (r12 q).2.2)) (cwV 0 hts gL_law_X1_strays rfl rfl rfl (by decide +kernel) ⟨by decide +kernel, by decide +kernel⟩) rfl rfl rfl hl.1 rfl (Nat.le_of_ble_eq_true rfl) dL_law_340 ⟨by decide +kernel, by decide +kernel⟩ ?_
      refine lv_icmp_eq (tgt := 348) hx hb dL_law_343 (by decide) (fun hq9 => ?_) (fun hq9 => ?_)
      · exact cont hR hP0 hP1 hD0 hD1 hS ls hl
      · exact absurd (pm_str (fun q => (r12 q).2.1)) hq9
    · refine lv_tableOut (tgt := 348) hx hb dL_law_32 (Or.inr (by rw [nI_toInt (by omega)]; omega)) (by decide) ?_
      exact cont hR hP0 hP1 hD0 hD1 hS ls hl
end
section
theorem px_arr {args : Array Value} {s : State} {ty : FieldType} (h : (Cond.arrayClass ty).before args s = true) : ∃ cA : ClassId, ArrOfT s cA ty ∧ s.vm.findClass ("[" ++ ty.toString) = some cA := by
  obtain ⟨cA, kA, comp, h1, h2, h3⟩ := Cond.arrayClass_spec h
  exact ⟨cA, fun n z => ⟨fun k h => (by cases h), kA, h2, comp, h3⟩, h1⟩
theorem px_Pl {D : va_G} {cl : List vw_C} {a b : va_W} {H : Heap} (h : va_P D cl (a ++ b) H) : va_P D cl a H := fun k q hq => h k q (by rw [List.getElem?_append_left ((List.getElem?_eq_some_iff.mp hq).1)]; exact hq)
theorem px_Pr {D : va_G} {cl : List vw_C} {a b : va_W} {H : Heap} (h : va_P D cl (a ++ b) H) : va_P D cl b H := fun k q hq => h (a.length + k) q (by rw [List.getElem?_append_right (by omega)]; rw [show a.length + k - a.length = k by omega]; exact hq)
theorem px_Dl {A : Nat → Prop} {a b : va_W} (h : va_D A (a ++ b)) : va_D A a := by
  have at' : ∀ (k : Nat) (q : Nat × va_E), a[k]? = some q → (a ++ b)[k]? = some q := fun k q hq => by rw [List.getElem?_append_left ((List.getElem?_eq_some_iff.mp hq).1)]; exact hq
  exact ⟨fun i j x y hx hy e => h.1 i j x y (at' i x hx) (at' j y hy) e, fun k q hq => h.2 k q (at' k q hq)⟩
theorem px_Dr {A : Nat → Prop} {a b : va_W} (h : va_D A (a ++ b)) : va_D A b := by
  have at' : ∀ (k : Nat) (q : Nat × va_E), b[k]? = some q → (a ++ b)[a.length + k]? = some q := fun k q hq => by rw [List.getElem?_append_right (by omega), show a.length + k - a.length = k by omega]; exact hq
  exact ⟨fun i j x y hx hy e => by have := h.1 _ _ x y (at' i x hx) (at' j y hy) e; omega, fun k q hq => h.2 _ q (at' k q hq)⟩
theorem px_Dx {A : Nat → Prop} {a b : va_W} (h : va_D A (a ++ b)) {i j : Nat} {x y : Nat × va_E} (hx : a[i]? = some x) (hy : b[j]? = some y) : x.1 ≠ y.1 := fun e => by
  have hl := (List.getElem?_eq_some_iff.mp hx).1
  have := h.1 i (a.length + j) x y (by rw [List.getElem?_append_left hl]; exact hx) (by rw [List.getElem?_append_right (by omega), show a.length + j - a.length = j by omega]; exact hy) e
  omega
set_option maxHeartbeats 4000000 in
set_option maxRecDepth 100000 in
theorem whole_start {p : Program} {e : Env} {s : State} {m : MethodId} {below : List Frame} {meth : Method} {c : Code} (l : Launch) {b L : Nat} {xs : Nat → Int32} (hL : L ≤ 1536) (C0 : lw_At p s m meth c b L xs) : W p l e room_1 s m #[Value.ref b] below meth c s.heap [] 0 0 (lw_Z below #[Value.ref b] s) (entryFrame m ([Value.ref b] : List Value).toArray 4) := by
  obtain ⟨hx, hb, hr, hml, hown, hts, hX, hbl, hlocks, hgv⟩ := id C0
  have hown : s.vm.findClass RL = some m.cls := hown
  have hts : ∀ w ∈ wsL_law, w.before #[Value.ref b] s = true := fun w h => hts w (wsL_law_in w h)
  have hb : c.code = cL_law := hb
  have S : CallFix p m c cL_law 4 s #[Value.ref b] wsL_law RL := ⟨hx, hb, hml, hown, hts⟩
  have hA : ∀ q : Nat, s.heap.size ≤ q → (fun q : Nat => s.heap.size ≤ q) q := fun _ h => h
  obtain ⟨c0, iS0, hKn0⟩ := u_known (C := RX0) (T := TX0) (N := 11) (n := 11) hts inlX0 (hts (.instantiable RX0 11) (by decide +kernel))
  obtain ⟨c1, iS1, hKn1⟩ := u_known (C := RX1) (T := TX1) (N := 9) (n := 9) hts inlX1 (hts (.instantiable RX1 9) (by decide +kernel))
  obtain ⟨D, hKc⟩ : ∃ D : va_G, ∀ (k : Nat) (q : vw_C), vwCl[k]? = some q → u_Kn s q.1 q.2.1 q.2.2 (D.1 k) (D.2 k) := by
    refine ⟨(fun k => if k = 0 then c0 else c1, fun k => if k = 0 then iS0 else iS1), ?_⟩
    intro k q hq
    match k, hq with
    | 0, hq => cases hq; exact hKn0
    | 1, hq => cases hq; exact hKn1
    | k + 2, hq => simp [vwCl] at hq
  obtain ⟨cI, hI1, hI2⟩ := px_arr (hts (.arrayClass .int) (by decide +kernel))
  obtain ⟨cJ, hJ1, hJ2⟩ := px_arr (hts (.arrayClass .long) (by decide +kernel))
  obtain ⟨cZ, hZ1, hZ2⟩ := px_arr (hts (.arrayClass .boolean) (by decide +kernel))
  have hK : va_K D vwCl (tyq cI cJ cZ) s := by
    refine ⟨hKc, fun k q h => ?_⟩
    match k, h with
    | 0, h => cases h; exact ⟨hI1, hI2⟩
    | 1, h => cases h; exact ⟨hJ1, hJ2⟩
    | 2, h => cases h; exact ⟨hZ1, hZ2⟩
    | k + 3, h => simp at h
  have hS : va_S (fun q : Nat => s.heap.size ≤ q) s.heap s.heap [] := va_S.rf
  have hP : va_P D vwCl [] s.heap := fun k q h => by simp at h
  have hD : va_D (fun q : Nat => s.heap.size ≤ q) [] := ⟨fun i j p q h => by simp at h, fun k q h => by simp at h⟩
  have hl := lv_entry ([.ref b]) (n := 4) (Nat.le_of_ble_eq_true rfl)
  rw [lg_entry_eq]
  generalize (lg_sl ([.ref b]) ++ List.replicate (4 - (lg_sl ([.ref b])).length) Slot.unset).toArray = ls at hl ⊢
  have hl : lv_has ls 4 [(0, .ref b)] := hl
  refine va_new (ci := 0) (fs := [.int 0, .int 0, .int 0, .null, .null, .null, .null, .null, .null, .null, .null]) (C := RX0) (T := TX0) (N := 11) hx hb hts inlX0 tyX0 tyX0_ok hown (hts (.classLink RL 7 RX0) (by decide +kernel)) (hts (.instantiable RX0 11) (by decide +kernel)) (hts (.initialized RX0) (by decide +kernel)) hK hP hD hS hA rfl (fun j hj => by rcases (show j = 0 ∨ j = 1 ∨ j = 2 ∨ j = 3 ∨ j = 4 ∨ j = 5 ∨ j = 6 ∨ j = 7 ∨ j = 8 ∨ j = 9 ∨ j = 10 by omega) with rfl | rfl | rfl | rfl | rfl | rfl | rfl | rfl | rfl | rfl | rfl <;> rfl) (by decide +kernel) (by decide +kernel) dL_law_0 (fun q0 H hP hD hS => ?_)
  have hP : va_P D vwCl [(q0, .inr (0, [.int 0, .int 0, .int 0, .null, .null, .null, .null, .null, .null, .null, .null]))] H := hP
  have hD : va_D (fun q : Nat => s.heap.size ≤ q) [(q0, .inr (0, [.int 0, .int 0, .int 0, .null, .null, .null, .null, .null, .null, .null, .null]))] := hD
  refine lv_dup hx hb dL_law_3 rfl ?_
  have hFc := va_free (wc := [(q0, .inr (0, [.int 0, .int 0, .int 0, .null, .null, .null, .null, .null, .null, .null, .null]))]) hD hS hA [0] rfl
  refine va_callv (va_runI (As := []) (rest := [.ref q0]) S (tX0_init l D cI cJ cZ q0 H.size) (cwI 0 hts gL_law_X0_init rfl rfl rfl (hts (.initialized RX0) (by decide +kernel)) (hts (.methodLink RL 9 yX0_init) (by decide +kernel)) (hts (.instanceMethod yX0_init) (by decide +kernel)) rfl (by decide +kernel) ⟨by decide +kernel, by decide +kernel⟩) ⟨fun a U g mk q => by obtain ⟨q0, q1, qP, qK, qD⟩ := q; exact ⟨q0, q1, qP, va_K.moved (u := U) (U := U.calling g mk a) (Vm.Alike.refl U.vm) qK, qD⟩, fun U hU hW => ⟨rfl, by rw [hU], by rw [hU]; exact hP, va_K.moved hW.alike hK, hD.weaken (fun _ _ _ _ => trivial)⟩⟩ rfl rfl hl.1 rfl (lv_room (Nat.le_of_ble_eq_true rfl)) dL_law_4 ⟨by decide +kernel, by decide +kernel⟩) hS (fun q _ h => hFc q h) hFc (fun ad t H1 locs ht hvm hw hB hz1 hk1 hS => ?_)
  obtain ⟨hP0, hDx⟩ := hB
  rw [ht] at hP0
  have hD0 : va_D (fun q : Nat => s.heap.size ≤ q) (w0 cI cJ cZ ad (nI 1) (nI 1) (px_b false) (fun _ => 0) (fun _ => nI 0) (fun _ => nI 0) (fun _ => -1) (fun _ => 0) (fun _ => 0) (fun _ => 0) (fun _ => 0)) := hDx.weaken (fun _ q _ h => hFc q.1 h)
  clear hDx hD hP
  have hw : ad 0 = q0 := hw
  subst hw
  refine W.widen (k := 9) (n := 2211) (by decide +kernel) (by decide +kernel) ?_
  refine lv_astore_n (lv' := [(1, .ref (ad 0)), (0, .ref b)]) hx hb dL_law_7 rfl hl (by decide) rfl (fun ls hl => ?_)
  refine va_new (ci := 1) (fs := [.null, .null, .null, .null, .null, .null, .int 0, .int 0, .int 0]) (C := RX1) (T := TX1) (N := 9) hx hb hts inlX1 tyX1 tyX1_ok hown (hts (.classLink RL 10 RX1) (by decide +kernel)) (hts (.instantiable RX1 9) (by decide +kernel)) (hts (.initialized RX1) (by decide +kernel)) hK hP0 hD0 hS hA rfl (fun j hj => by rcases (show j = 0 ∨ j = 1 ∨ j = 2 ∨ j = 3 ∨ j = 4 ∨ j = 5 ∨ j = 6 ∨ j = 7 ∨ j = 8 by omega) with rfl | rfl | rfl | rfl | rfl | rfl | rfl | rfl | rfl <;> rfl) (by decide +kernel) (by decide +kernel) dL_law_8 (fun q1 H2 hP hD hS => ?_)
  have hP0 := px_Pl hP
  have hD0 := px_Dl hD
  have hPq : va_P D vwCl [(q1, .inr (1, [.null, .null, .null, .null, .null, .null, .int 0, .int 0, .int 0]))] H2 := px_Pr hP
  have hDq : va_D (fun q : Nat => s.heap.size ≤ q) [(q1, .inr (1, [.null, .null, .null, .null, .null, .null, .int 0, .int 0, .int 0]))] := px_Dr hD
  have hx1 : ∀ i, i < 9 → ad i ≠ q1 := fun i hi => by
    have hlt : i < (w0 cI cJ cZ ad (nI 1) (nI 1) (px_b false) (fun _ => 0) (fun _ => nI 0) (fun _ => nI 0) (fun _ => -1) (fun _ => 0) (fun _ => 0) (fun _ => 0) (fun _ => 0)).length := hi
    have hg := List.getElem?_eq_getElem hlt
    obtain ⟨-, e1⟩ := px_adr0 hg
    rw [← e1]
    exact px_Dx hD (j := 0) hg rfl
  have hlt : ∀ i, i < 9 → ad i < H2.size := fun i hi => by
    have hlt : i < (w0 cI cJ cZ ad (nI 1) (nI 1) (px_b false) (fun _ => 0) (fun _ => nI 0) (fun _ => nI 0) (fun _ => -1) (fun _ => 0) (fun _ => 0) (fun _ => 0) (fun _ => 0)).length := hi
    have hg := List.getElem?_eq_getElem hlt
    obtain ⟨-, e1⟩ := px_adr0 hg
    rw [← e1]
    exact (hP0 i _ hg).lt
  refine lv_dup hx hb dL_law_11 rfl ?_
  have hFc := va_free (wc := [(q1, .inr (1, [.null, .null, .null, .null, .null, .null, .int 0, .int 0, .int 0]))]) hDq hS hA [0] rfl
  refine va_callv (va_runI (As := []) (rest := [.ref q1]) S (tX1_init l D cI cJ cZ q1 H2.size) (cwI 0 hts gL_law_X1_init rfl rfl rfl (hts (.initialized RX1) (by decide +kernel)) (hts (.methodLink RL 12 yX1_init) (by decide +kernel)) (hts (.instanceMethod yX1_init) (by decide +kernel)) rfl (by decide +kernel) ⟨by decide +kernel, by decide +kernel⟩) ⟨fun a U g mk q => by obtain ⟨q0, q1, qP, qK, qD⟩ := q; exact ⟨q0, q1, qP, va_K.moved (u := U) (U := U.calling g mk a) (Vm.Alike.refl U.vm) qK, qD⟩, fun U hU hW => ⟨rfl, by rw [hU], by rw [hU]; exact hPq, va_K.moved hW.alike hK, hDq.weaken (fun _ _ _ _ => trivial)⟩⟩ rfl rfl hl.1 rfl (lv_room (Nat.le_of_ble_eq_true rfl)) dL_law_12 ⟨by decide +kernel, by decide +kernel⟩) hS (fun q _ h => hFc q h) hFc (fun bd t H3 locs ht hvm hw hB hz1 hk1 hS => ?_)
  obtain ⟨hP1, hD2⟩ := hB
  rw [ht] at hP1
  have hD1 : va_D (fun q : Nat => s.heap.size ≤ q) (w1 cI cZ bd (nI 1) (nI 1) (px_b false) (fun _ => px_b false) (fun _ => nI 0) (fun a => nI a) (fun _ => 0) (fun _ => 0) (fun _ => 0)) := hD2.weaken (fun _ q _ h => hFc q.1 h)
  have hw : bd 0 = q1 := hw
  have hout : ∀ i, i < 9 → ¬ va_A [(q1, .inr (1, [.null, .null, .null, .null, .null, .null, .int 0, .int 0, .int 0]))] H2.size (ad i) := fun i hi h => by
    rcases h with ⟨k, e2, h⟩ | h
    · match k, h with
      | 0, h =>
        have : q1 = ad i := by cases h; rfl
        exact hx1 i hi this.symm
      | k + 1, h => simp at h
    · exact absurd (hlt i hi) (by omega)
  have hne : ∀ i j, i < 9 → j < 7 → ad i ≠ bd j := fun i j hi hj q => by
    have hl7 : j < (w1 cI cZ bd (nI 1) (nI 1) (px_b false) (fun _ => px_b false) (fun _ => nI 0) (fun a => nI a) (fun _ => 0) (fun _ => 0) (fun _ => 0)).length := hj
    have hg := List.getElem?_eq_getElem hl7
    obtain ⟨-, e1⟩ := px_adr1 hg
    exact hout i hi (by rw [q, ← e1]; exact hD2.2 j _ hg)
  have hP0 : va_P D vwCl (w0 cI cJ cZ ad (nI 1) (nI 1) (px_b false) (fun _ => 0) (fun _ => nI 0) (fun _ => nI 0) (fun _ => -1) (fun _ => 0) (fun _ => 0) (fun _ => 0) (fun _ => 0)) H3 := hP0.kept (fun k q hq => by
    obtain ⟨h9, e1⟩ := px_adr0 hq
    rw [e1]
    exact hk1 (ad k) (hlt k h9) (hout k h9))
  subst hw
  refine W.widen (k := 16) (n := 43220) (by decide +kernel) (by decide +kernel) ?_
  refine lv_astore_n (lv' := [(2, .ref (bd 0)), (1, .ref (ad 0)), (0, .ref b)]) hx hb dL_law_15 rfl hl (by decide) rfl (fun ls hl => ?_)
  refine lv_iconst (v := nI 0) hx hb dL_law_16 (by decide +kernel) ?_
  refine lv_istore_n (lv' := [(3, .int (nI 0)), (2, .ref (bd 0)), (1, .ref (ad 0)), (0, .ref b)]) hx hb dL_law_17 rfl hl (by decide) rfl (fun ls hl => ?_)
  exact law_loop hL C0 hne hK (L + 1) 0 (by omega) (by omega) (pm_R_begin (i := 1) (j := 1) (by decide) (by decide) (by decide) (by decide) (fun _ => 0) (fun _ => 0) (fun _ => 0) (fun _ => 0)) hP0 hP1 hD0 hD1 hS ls hl
end
section
-- ===== YOUR PART ENDS =====
set_option maxHeartbeats 4000000 in
theorem lw_walk (l : Launch) (b : Addr) (xs : List Int32) : MetFree l x (headSpec (Jvm.Cond.code x code maxLocals ret :: tables_1) room_1) (lw_P b xs) (fun _ _ _ _ _ => True) lw_Q := by
  refine MetFree.of_bodyS (code := code) (maxLocals := maxLocals) (ret := ret) (by decide) ?_ ?_
  · intro args s m h hn
    obtain ⟨meth, c, h1, h2, h3, h4, h5, h6, -, -⟩ := Cond.code_spec hn (atoms_spec (ws := Jvm.Cond.code x code maxLocals ret :: tables_1) h _ List.mem_cons_self)
    exact ⟨meth, c, h1, h2, h3, h4, h5, h6⟩
  · intro p e s m args below meth c s₁ B hml0 hP _
    obtain ⟨rfl, hx, hbd, hgv⟩ := hP
    obtain ⟨scr, harrAt, hlist, hof, hsmall⟩ := hx
    obtain ⟨hcb, hkn, -, -⟩ := State.arrayAt?_spec harrAt
    have hown : s.vm.findClass R_law = some m.cls := findClass_of_methodNamed B.named
    have hts0 : ∀ c ∈ (Jvm.Cond.code x code maxLocals ret :: tables_1), c.before #[Value.ref b] s = true := atoms_spec (ws := Jvm.Cond.code x code maxLocals ret :: tables_1) B.pre
    have hts : ∀ w ∈ lw_tbl, w.before #[Value.ref b] s = true := k2_hts_sels lw_privs (fun w hw => hts0 w (List.mem_cons_of_mem _ hw)) lw_privs_ok
    have hml : c.maxLocals = 4 := B.maxLocals_eq (hts0 _ List.mem_cons_self)
    have X₀ : Stand p l e room_1 s m #[Value.ref b] below meth c s₁ [] 0 0 := Stand.of_body B
    have hh0 : s₁.heap = s.heap := by rw [B.state]; rfl
    have hsz : scr.slots.size = xs.length := by rw [← Array.length_toList, hlist, List.length_map]
    have hval : ∀ j : Nat, j < xs.length → scr.slots[j]? = some (.int (xs.getD j 0)) := fun j hj => by
      rw [← Array.getElem?_toList, hlist]
      simp [hj]
    have hbl : b < s.heap.size := (Array.getElem?_eq_some_iff.mp hcb).1
    have hX : va_X b xs.length (fun j => xs.getD j 0) s s.heap := ⟨scr, hcb, hof, hkn, hsz, hval⟩
    have K : W p l e room_1 s m #[Value.ref b] below meth c s₁.heap [] 0 0 (lw_Z below #[Value.ref b] s) (entryFrame m ([Value.ref b] : List Value).toArray 4) := by
      rw [hh0]
      exact whole_start l hbd ⟨B.exec, B.bytes, B.returns, hml, hown, hts, hX, hbl, B.notSynchronized, hgv⟩
    obtain ⟨t, a1, o, b1, b2, b3⟩ := K s₁ rfl X₀
    exact ⟨t, o, a1, b1, b2, b3⟩
theorem lw_pre_spec {args : Array Value} {s : State} (h : (Jvm.Cond.and given_1 narrow_1).before args s = true) (hr : rest_1_c.before args s = true) : ∃ (b : Addr) (xs : List Int32), lw_P b xs args s := by
  have hs := flat_of_before _ h
  have hq := flat_of_before _ hr
  have hc : (Cond.count 1).before args s = true := hs _ (by decide +kernel)
  have harr : (Cond.arrayOf (.arg 0) .int).before args s = true := hs _ (by decide +kernel)
  have hle : (Cond.le (.length (.arg 0)) (.int 1536)).before args s = true := hs _ (by decide +kernel)
  have hlen : (Cond.isInt (.length (.arg 0))).before args s = true := hq _ (by decide +kernel)
  have hall : (Cond.all (.arg 0) (.isInt (.elem (.arg 0) (.index 0)))).before args s = true := hq _ (by decide +kernel)
  obtain ⟨b, xs, hb, hx⟩ := State.ints_of_pre rfl harr hlen hall
  have hsm : xs.length < 2 ^ 31 := hx.choose_spec.2.2.2
  have hev : (Term.length (.arg 0)).eval args s none [] s = some (.int xs.length.toInt32) := hx.length_eval hb
  have hv := Cond.le_ints hev (show (Term.int 1536).eval args s none [] s = some (.int 1536) from rfl)
  have hd : xs.length.toInt32 ≤ 1536 := by
    simpa [Cond.before, Cond.holds, hv] using hle
  have hN : xs.length ≤ 1536 := (Int32.ofNat_le_ofNat hsm (by decide)).mp (show Int32.ofNat xs.length ≤ Int32.ofNat 1536 from hd)
  exact ⟨b, xs, Cond.one_arg hc (show args[0]? = some (.ref b) from hb), hx, hN, h⟩
theorem lw_comes (l : Launch) : Comes l x (Jvm.Cond.code x code maxLocals ret :: tables_1) room_1 (fun tb e args s => Calls_1 tb e args s ∧ rest_1 tb e args s ∧ Pre_1 tb e args s)
    (fun _ _ args s o t => lw_Q args s o t) := by
  intro p e ha hc hk s m args below hf hfit hheap happ hpre
  obtain ⟨b, xs, hP⟩ := lw_pre_spec hpre.2.2 hpre.2.1
  obtain ⟨k, o, h1, h2, h3, hQ⟩ := lw_walk l b xs p e ha hc hk s m args below hf ((Spec.applies_iff_loose hf).mp happ).1 hP trivial
  exact ⟨k, o, h1, h2, h3, hQ⟩
theorem lw_frame {s t : State} {o : Outcome} {args : Array Value} (h : Framed s o t [] 600000 7302250) :
    Framed s o t (fieldLocs frame_1_writes args s ++ arrayLocs frame_1_arrays args s ++ staticLocs frame_1_statics s) 600000 7302250 := h
theorem lw_limb (L : Cond) (hL : ∀ (args : Array Value) (s t : State), L.after args s (.returned (some (.int 1))) t = true) :
    ArmFor flags0 classFile x code maxLocals ret World_1 tables_1 room_1 Calls_1 rest_1 Pre_1
      (fun tb e a s o t => postC L tb e a s o t ∧ Framed s o t (fieldLocs frame_1_writes a s ++ arrayLocs frame_1_arrays a s ++ staticLocs frame_1_statics s) 600000 7302250) := by
  intro l _ _ _ p e ha hc hk s m args below hf hfit hheap happ hpre
  obtain ⟨k, o, h1, h2, h3, rfl, hF⟩ := lw_comes l p e ha hc hk s m args below hf hfit hheap happ hpre
  exact ⟨k, _, h1, h2, h3, hL args s _, lw_frame hF⟩
theorem i_vc : Claimed_1_1 ∧ Claimed_1_2 := ⟨lw_limb limb_1_1 (fun args s t => by simp [limb_1_1, Cond.after, Cond.holds, Cond.value]), lw_limb limb_1_2 (fun args s t => Cond.after_iff.mpr (by
  first | (rw [show limb_1_2 = Cond.eq .result (.int 1) from rfl, Cond.eq_ints (x := 1) (y := 1) rfl rfl]; simp; done) | (simp [limb_1_2, Cond.value, Term.eval]; done)))⟩
end
