-- ===== PART A: goes FIRST, ahead of the names: the tables' words, and 'selects' of the private methods out of them =====
/-- a private method of a class that the tables say can be made, by its rows of tables_1 -/
def lw_okq (q : MethodName × Nat) : Prop := (q.1.cls ≠ "java/lang/invoke/MethodHandle" ∧ q.1.cls ≠ "java/lang/invoke/VarHandle") ∧ Cond.instantiable q.1.cls q.2 ∈ tables_1 ∧ Cond.privateMethod q.1 ∈ tables_1 ∧ Cond.instanceMethod q.1 ∈ tables_1
theorem lw_p0 : lw_okq (⟨"WordKin$Text", "beginReading", "()V"⟩, 13) := ⟨⟨by decide +kernel, by decide +kernel⟩, List.mem_of_getElem? (i := 21) (by decide +kernel), List.mem_of_getElem? (i := 231) (by decide +kernel), List.mem_of_getElem? (i := 232) (by decide +kernel)⟩
theorem lw_p1 : lw_okq (⟨"WordKin$Text", "needsMore", "()Z"⟩, 13) := ⟨⟨by decide +kernel, by decide +kernel⟩, List.mem_of_getElem? (i := 21) (by decide +kernel), List.mem_of_getElem? (i := 235) (by decide +kernel), List.mem_of_getElem? (i := 236) (by decide +kernel)⟩
theorem lw_p2 : lw_okq (⟨"WordKin$Text", "isOfLetters", "()Z"⟩, 13) := ⟨⟨by decide +kernel, by decide +kernel⟩, List.mem_of_getElem? (i := 21) (by decide +kernel), List.mem_of_getElem? (i := 239) (by decide +kernel), List.mem_of_getElem? (i := 240) (by decide +kernel)⟩
theorem lw_p3 : lw_okq (⟨"WordKin$Text", "goOnWith", "(I)Z"⟩, 13) := ⟨⟨by decide +kernel, by decide +kernel⟩, List.mem_of_getElem? (i := 21) (by decide +kernel), List.mem_of_getElem? (i := 246) (by decide +kernel), List.mem_of_getElem? (i := 247) (by decide +kernel)⟩
theorem lw_p4 : lw_okq (⟨"WordKin$Text", "addLetter", "([IIII)Z"⟩, 13) := ⟨⟨by decide +kernel, by decide +kernel⟩, List.mem_of_getElem? (i := 21) (by decide +kernel), List.mem_of_getElem? (i := 250) (by decide +kernel), List.mem_of_getElem? (i := 251) (by decide +kernel)⟩
theorem lw_p5 : lw_okq (⟨"WordKin$Text", "addSign", "(I)Z"⟩, 13) := ⟨⟨by decide +kernel, by decide +kernel⟩, List.mem_of_getElem? (i := 21) (by decide +kernel), List.mem_of_getElem? (i := 257) (by decide +kernel), List.mem_of_getElem? (i := 258) (by decide +kernel)⟩
theorem lw_p6 : lw_okq (⟨"WordKin$Text", "beginPart", "(I)Z"⟩, 13) := ⟨⟨by decide +kernel, by decide +kernel⟩, List.mem_of_getElem? (i := 21) (by decide +kernel), List.mem_of_getElem? (i := 264) (by decide +kernel), List.mem_of_getElem? (i := 265) (by decide +kernel)⟩
theorem lw_p7 : lw_okq (⟨"WordKin$Ways", "isAmongUnlike", "(II)Z"⟩, 6) := ⟨⟨by decide +kernel, by decide +kernel⟩, List.mem_of_getElem? (i := 104) (by decide +kernel), List.mem_of_getElem? (i := 322) (by decide +kernel), List.mem_of_getElem? (i := 323) (by decide +kernel)⟩
theorem lw_p8 : lw_okq (⟨"WordKin$Ways", "activeOver", "(I)I"⟩, 6) := ⟨⟨by decide +kernel, by decide +kernel⟩, List.mem_of_getElem? (i := 104) (by decide +kernel), List.mem_of_getElem? (i := 330) (by decide +kernel), List.mem_of_getElem? (i := 331) (by decide +kernel)⟩
theorem lw_p9 : lw_okq (⟨"WordKin", "canBe", "(IIII)Z"⟩, 9) := ⟨⟨by decide +kernel, by decide +kernel⟩, List.mem_of_getElem? (i := 13) (by decide +kernel), List.mem_of_getElem? (i := 486) (by decide +kernel), List.mem_of_getElem? (i := 487) (by decide +kernel)⟩
theorem lw_p10 : lw_okq (⟨"WordKin", "canSwap", "(II)Z"⟩, 9) := ⟨⟨by decide +kernel, by decide +kernel⟩, List.mem_of_getElem? (i := 13) (by decide +kernel), List.mem_of_getElem? (i := 490) (by decide +kernel), List.mem_of_getElem? (i := 491) (by decide +kernel)⟩
theorem lw_p11 : lw_okq (⟨"WordKin", "canSign", "(III)Z"⟩, 9) := ⟨⟨by decide +kernel, by decide +kernel⟩, List.mem_of_getElem? (i := 13) (by decide +kernel), List.mem_of_getElem? (i := 494) (by decide +kernel), List.mem_of_getElem? (i := 495) (by decide +kernel)⟩
theorem lw_p12 : lw_okq (⟨"WordKinModel", "forgetForms", "()V"⟩, 30) := ⟨⟨by decide +kernel, by decide +kernel⟩, List.mem_of_getElem? (i := 581) (by decide +kernel), List.mem_of_getElem? (i := 587) (by decide +kernel), List.mem_of_getElem? (i := 588) (by decide +kernel)⟩
theorem lw_p13 : lw_okq (⟨"WordKinModel", "readText", "()I"⟩, 30) := ⟨⟨by decide +kernel, by decide +kernel⟩, List.mem_of_getElem? (i := 581) (by decide +kernel), List.mem_of_getElem? (i := 698) (by decide +kernel), List.mem_of_getElem? (i := 699) (by decide +kernel)⟩
theorem lw_p14 : lw_okq (⟨"WordKinModel", "begun", "(I)I"⟩, 30) := ⟨⟨by decide +kernel, by decide +kernel⟩, List.mem_of_getElem? (i := 581) (by decide +kernel), List.mem_of_getElem? (i := 705) (by decide +kernel), List.mem_of_getElem? (i := 706) (by decide +kernel)⟩
theorem lw_p15 : lw_okq (⟨"WordKinModel", "begin", "(I)V"⟩, 30) := ⟨⟨by decide +kernel, by decide +kernel⟩, List.mem_of_getElem? (i := 581) (by decide +kernel), List.mem_of_getElem? (i := 709) (by decide +kernel), List.mem_of_getElem? (i := 710) (by decide +kernel)⟩
def lw_privs_1 : List (MethodName × Nat) := [(⟨"WordKin$Text", "beginReading", "()V"⟩, 13), (⟨"WordKin$Text", "needsMore", "()Z"⟩, 13), (⟨"WordKin$Text", "isOfLetters", "()Z"⟩, 13), (⟨"WordKin$Text", "goOnWith", "(I)Z"⟩, 13), (⟨"WordKin$Text", "addLetter", "([IIII)Z"⟩, 13), (⟨"WordKin$Text", "addSign", "(I)Z"⟩, 13), (⟨"WordKin$Text", "beginPart", "(I)Z"⟩, 13), (⟨"WordKin$Ways", "isAmongUnlike", "(II)Z"⟩, 6), (⟨"WordKin$Ways", "activeOver", "(I)I"⟩, 6), (⟨"WordKin", "canBe", "(IIII)Z"⟩, 9), (⟨"WordKin", "canSwap", "(II)Z"⟩, 9), (⟨"WordKin", "canSign", "(III)Z"⟩, 9), (⟨"WordKinModel", "forgetForms", "()V"⟩, 30), (⟨"WordKinModel", "readText", "()I"⟩, 30), (⟨"WordKinModel", "begun", "(I)I"⟩, 30), (⟨"WordKinModel", "begin", "(I)V"⟩, 30)]
theorem lw_r1 : ∀ q ∈ lw_privs_1, lw_okq q := List.forall_mem_cons.mpr ⟨lw_p0, List.forall_mem_cons.mpr ⟨lw_p1, List.forall_mem_cons.mpr ⟨lw_p2, List.forall_mem_cons.mpr ⟨lw_p3, List.forall_mem_cons.mpr ⟨lw_p4, List.forall_mem_cons.mpr ⟨lw_p5, List.forall_mem_cons.mpr ⟨lw_p6, List.forall_mem_cons.mpr ⟨lw_p7, List.forall_mem_cons.mpr ⟨lw_p8, List.forall_mem_cons.mpr ⟨lw_p9, List.forall_mem_cons.mpr ⟨lw_p10, List.forall_mem_cons.mpr ⟨lw_p11, List.forall_mem_cons.mpr ⟨lw_p12, List.forall_mem_cons.mpr ⟨lw_p13, List.forall_mem_cons.mpr ⟨lw_p14, List.forall_mem_cons.mpr ⟨lw_p15, fun _ h => absurd h List.not_mem_nil⟩⟩⟩⟩⟩⟩⟩⟩⟩⟩⟩⟩⟩⟩⟩⟩
theorem lw_p16 : lw_okq (⟨"WordKinModel", "take", "(III)Z"⟩, 30) := ⟨⟨by decide +kernel, by decide +kernel⟩, List.mem_of_getElem? (i := 581) (by decide +kernel), List.mem_of_getElem? (i := 713) (by decide +kernel), List.mem_of_getElem? (i := 714) (by decide +kernel)⟩
theorem lw_p17 : lw_okq (⟨"WordKinModel", "unlike", "([II)I"⟩, 30) := ⟨⟨by decide +kernel, by decide +kernel⟩, List.mem_of_getElem? (i := 581) (by decide +kernel), List.mem_of_getElem? (i := 736) (by decide +kernel), List.mem_of_getElem? (i := 737) (by decide +kernel)⟩
theorem lw_p18 : lw_okq (⟨"WordKinModel", "madeBy", "([IIII)I"⟩, 30) := ⟨⟨by decide +kernel, by decide +kernel⟩, List.mem_of_getElem? (i := 581) (by decide +kernel), List.mem_of_getElem? (i := 740) (by decide +kernel), List.mem_of_getElem? (i := 741) (by decide +kernel)⟩
theorem lw_p19 : lw_okq (⟨"WordKinModel", "raw", "(II)I"⟩, 30) := ⟨⟨by decide +kernel, by decide +kernel⟩, List.mem_of_getElem? (i := 581) (by decide +kernel), List.mem_of_getElem? (i := 744) (by decide +kernel), List.mem_of_getElem? (i := 745) (by decide +kernel)⟩
theorem lw_p20 : lw_okq (⟨"WordKinModel", "active", "([I)I"⟩, 30) := ⟨⟨by decide +kernel, by decide +kernel⟩, List.mem_of_getElem? (i := 581) (by decide +kernel), List.mem_of_getElem? (i := 769) (by decide +kernel), List.mem_of_getElem? (i := 770) (by decide +kernel)⟩
theorem lw_p21 : lw_okq (⟨"WordKinModel", "exceptions", "([I)I"⟩, 30) := ⟨⟨by decide +kernel, by decide +kernel⟩, List.mem_of_getElem? (i := 581) (by decide +kernel), List.mem_of_getElem? (i := 773) (by decide +kernel), List.mem_of_getElem? (i := 774) (by decide +kernel)⟩
theorem lw_p22 : lw_okq (⟨"WordKinModel", "manyForms", "()I"⟩, 30) := ⟨⟨by decide +kernel, by decide +kernel⟩, List.mem_of_getElem? (i := 581) (by decide +kernel), List.mem_of_getElem? (i := 777) (by decide +kernel), List.mem_of_getElem? (i := 778) (by decide +kernel)⟩
theorem lw_p23 : lw_okq (⟨"WordKinModel", "isRoot", "(I)Z"⟩, 30) := ⟨⟨by decide +kernel, by decide +kernel⟩, List.mem_of_getElem? (i := 581) (by decide +kernel), List.mem_of_getElem? (i := 785) (by decide +kernel), List.mem_of_getElem? (i := 786) (by decide +kernel)⟩
theorem lw_p24 : lw_okq (⟨"WordKinModel", "isEnding", "(I)Z"⟩, 30) := ⟨⟨by decide +kernel, by decide +kernel⟩, List.mem_of_getElem? (i := 581) (by decide +kernel), List.mem_of_getElem? (i := 789) (by decide +kernel), List.mem_of_getElem? (i := 790) (by decide +kernel)⟩
theorem lw_p25 : lw_okq (⟨"WordKinModel", "isChange", "(I)Z"⟩, 30) := ⟨⟨by decide +kernel, by decide +kernel⟩, List.mem_of_getElem? (i := 581) (by decide +kernel), List.mem_of_getElem? (i := 797) (by decide +kernel), List.mem_of_getElem? (i := 798) (by decide +kernel)⟩
theorem lw_p26 : lw_okq (⟨"WordKinModel", "noteDoing", "()V"⟩, 30) := ⟨⟨by decide +kernel, by decide +kernel⟩, List.mem_of_getElem? (i := 581) (by decide +kernel), List.mem_of_getElem? (i := 831) (by decide +kernel), List.mem_of_getElem? (i := 832) (by decide +kernel)⟩
theorem lw_p27 : lw_okq (⟨"WordKinModel", "areCrossing", "([III)Z"⟩, 30) := ⟨⟨by decide +kernel, by decide +kernel⟩, List.mem_of_getElem? (i := 581) (by decide +kernel), List.mem_of_getElem? (i := 858) (by decide +kernel), List.mem_of_getElem? (i := 859) (by decide +kernel)⟩
theorem lw_p28 : lw_okq (⟨"WordKinModel", "layTrial", "()V"⟩, 30) := ⟨⟨by decide +kernel, by decide +kernel⟩, List.mem_of_getElem? (i := 581) (by decide +kernel), List.mem_of_getElem? (i := 867) (by decide +kernel), List.mem_of_getElem? (i := 868) (by decide +kernel)⟩
theorem lw_p29 : lw_okq (⟨"WordKinModel", "isOrder", "(I)Z"⟩, 30) := ⟨⟨by decide +kernel, by decide +kernel⟩, List.mem_of_getElem? (i := 581) (by decide +kernel), List.mem_of_getElem? (i := 871) (by decide +kernel), List.mem_of_getElem? (i := 872) (by decide +kernel)⟩
theorem lw_p30 : lw_okq (⟨"WordKinModel", "changeAt", "(II)I"⟩, 30) := ⟨⟨by decide +kernel, by decide +kernel⟩, List.mem_of_getElem? (i := 581) (by decide +kernel), List.mem_of_getElem? (i := 875) (by decide +kernel), List.mem_of_getElem? (i := 876) (by decide +kernel)⟩
theorem lw_p31 : lw_okq (⟨"WordKinModel", "figuresOf", "(I)I"⟩, 30) := ⟨⟨by decide +kernel, by decide +kernel⟩, List.mem_of_getElem? (i := 581) (by decide +kernel), List.mem_of_getElem? (i := 879) (by decide +kernel), List.mem_of_getElem? (i := 880) (by decide +kernel)⟩
def lw_privs_2 : List (MethodName × Nat) := [(⟨"WordKinModel", "take", "(III)Z"⟩, 30), (⟨"WordKinModel", "unlike", "([II)I"⟩, 30), (⟨"WordKinModel", "madeBy", "([IIII)I"⟩, 30), (⟨"WordKinModel", "raw", "(II)I"⟩, 30), (⟨"WordKinModel", "active", "([I)I"⟩, 30), (⟨"WordKinModel", "exceptions", "([I)I"⟩, 30), (⟨"WordKinModel", "manyForms", "()I"⟩, 30), (⟨"WordKinModel", "isRoot", "(I)Z"⟩, 30), (⟨"WordKinModel", "isEnding", "(I)Z"⟩, 30), (⟨"WordKinModel", "isChange", "(I)Z"⟩, 30), (⟨"WordKinModel", "noteDoing", "()V"⟩, 30), (⟨"WordKinModel", "areCrossing", "([III)Z"⟩, 30), (⟨"WordKinModel", "layTrial", "()V"⟩, 30), (⟨"WordKinModel", "isOrder", "(I)Z"⟩, 30), (⟨"WordKinModel", "changeAt", "(II)I"⟩, 30), (⟨"WordKinModel", "figuresOf", "(I)I"⟩, 30)]
theorem lw_r2 : ∀ q ∈ lw_privs_2, lw_okq q := List.forall_mem_cons.mpr ⟨lw_p16, List.forall_mem_cons.mpr ⟨lw_p17, List.forall_mem_cons.mpr ⟨lw_p18, List.forall_mem_cons.mpr ⟨lw_p19, List.forall_mem_cons.mpr ⟨lw_p20, List.forall_mem_cons.mpr ⟨lw_p21, List.forall_mem_cons.mpr ⟨lw_p22, List.forall_mem_cons.mpr ⟨lw_p23, List.forall_mem_cons.mpr ⟨lw_p24, List.forall_mem_cons.mpr ⟨lw_p25, List.forall_mem_cons.mpr ⟨lw_p26, List.forall_mem_cons.mpr ⟨lw_p27, List.forall_mem_cons.mpr ⟨lw_p28, List.forall_mem_cons.mpr ⟨lw_p29, List.forall_mem_cons.mpr ⟨lw_p30, List.forall_mem_cons.mpr ⟨lw_p31, fun _ h => absurd h List.not_mem_nil⟩⟩⟩⟩⟩⟩⟩⟩⟩⟩⟩⟩⟩⟩⟩⟩
theorem lw_p32 : lw_okq (⟨"WordKinModel", "judged", "(IIII)Z"⟩, 30) := ⟨⟨by decide +kernel, by decide +kernel⟩, List.mem_of_getElem? (i := 581) (by decide +kernel), List.mem_of_getElem? (i := 892) (by decide +kernel), List.mem_of_getElem? (i := 893) (by decide +kernel)⟩
theorem lw_p33 : lw_okq (⟨"WordKinModel", "agrees", "(I)Z"⟩, 30) := ⟨⟨by decide +kernel, by decide +kernel⟩, List.mem_of_getElem? (i := 581) (by decide +kernel), List.mem_of_getElem? (i := 921) (by decide +kernel), List.mem_of_getElem? (i := 922) (by decide +kernel)⟩
def lw_privs_3 : List (MethodName × Nat) := [(⟨"WordKinModel", "judged", "(IIII)Z"⟩, 30), (⟨"WordKinModel", "agrees", "(I)Z"⟩, 30)]
theorem lw_r3 : ∀ q ∈ lw_privs_3, lw_okq q := List.forall_mem_cons.mpr ⟨lw_p32, List.forall_mem_cons.mpr ⟨lw_p33, fun _ h => absurd h List.not_mem_nil⟩⟩
def lw_privs : List (MethodName × Nat) := lw_privs_1 ++ (lw_privs_2 ++ (lw_privs_3))
def lw_tbl : List Cond := k2_sels lw_privs ++ tables_1
theorem lw_privs_ok : ∀ q ∈ lw_privs, lw_okq q := by
  show ∀ q ∈ lw_privs_1 ++ (lw_privs_2 ++ (lw_privs_3)), lw_okq q
  exact List.forall_mem_append.mpr ⟨lw_r1, List.forall_mem_append.mpr ⟨lw_r2, lw_r3⟩⟩
def RX0 : String := "WordKin$Doings"
def TX0 : u_T := fun k => match k with
  | 0 => ("WordKin$Doings", "kinds", "[I", true)
  | 1 => ("WordKin$Doings", "ones", "[I", true)
  | 2 => ("WordKin$Doings", "others", "[I", true)
  | 3 => ("WordKin$Doings", "befores", "[I", true)
  | 4 => ("WordKin$Doings", "first", "I", false)
  | _ => ("WordKin$Doings", "count", "I", false)
def tyX0 : Nat → FieldType := fun k => match k with
  | 0 => .array .int
  | 1 => .array .int
  | 2 => .array .int
  | 3 => .array .int
  | 4 => .int
  | _ => .int
abbrev wsX00 : List Cond := u_ws RX0 TX0 6
theorem nmX0 : ∀ a, a < 6 → ∀ b, b < 6 → a ≠ b → (TX0 a).2.1 ≠ (TX0 b).2.1 := by decide +kernel
theorem tyX0_ok : ∀ k, k < 6 → parseFieldDescriptor (TX0 k).2.2.1 = some (tyX0 k) := by decide +kernel
abbrev cX0_init : ByteArray := prog_2_method_1_code
def yX0_init : MethodName := ⟨RX0, "<init>", "()V"⟩
abbrev cX0_add : ByteArray := prog_2_method_2_code
def yX0_add : MethodName := ⟨RX0, "add", "(IIII)V"⟩
abbrev cX0_takeBackLast : ByteArray := prog_2_method_3_code
def yX0_takeBackLast : MethodName := ⟨RX0, "takeBackLast", "(LWordKin$Ways;)V"⟩
def RX1 : String := "WordKin$Sightings"
def TX1 : u_T := fun k => match k with
  | 0 => ("WordKin$Sightings", "endings", "[I", true)
  | 1 => ("WordKin$Sightings", "places", "[I", true)
  | 2 => ("WordKin$Sightings", "letters", "[I", true)
  | 3 => ("WordKin$Sightings", "was", "[Z", true)
  | _ => ("WordKin$Sightings", "count", "I", false)
def tyX1 : Nat → FieldType := fun k => match k with
  | 0 => .array .int
  | 1 => .array .int
  | 2 => .array .int
  | 3 => .array .boolean
  | _ => .int
abbrev wsX10 : List Cond := u_ws RX1 TX1 5
theorem nmX1 : ∀ a, a < 5 → ∀ b, b < 5 → a ≠ b → (TX1 a).2.1 ≠ (TX1 b).2.1 := by decide +kernel
theorem tyX1_ok : ∀ k, k < 5 → parseFieldDescriptor (TX1 k).2.2.1 = some (tyX1 k) := by decide +kernel
abbrev cX1_init : ByteArray := prog_3_method_1_code
def yX1_init : MethodName := ⟨RX1, "<init>", "()V"⟩
abbrev cX1_add : ByteArray := prog_3_method_2_code
def yX1_add : MethodName := ⟨RX1, "add", "(IIIZ)Z"⟩
abbrev cX1_agreeWith : ByteArray := prog_3_method_3_code
def yX1_agreeWith : MethodName := ⟨RX1, "agreeWith", "(ILWordKin$Stock;LWordKin$Ways;)Z"⟩
def RX2 : String := "WordKin$Stock"
def TX2 : u_T := fun k => match k with
  | 0 => ("WordKin$Stock", "roots", "[I", true)
  | 1 => ("WordKin$Stock", "endings", "[I", true)
  | 2 => ("WordKin$Stock", "rootCount", "I", false)
  | _ => ("WordKin$Stock", "endingCount", "I", false)
def tyX2 : Nat → FieldType := fun k => match k with
  | 0 => .array .int
  | 1 => .array .int
  | 2 => .int
  | _ => .int
abbrev wsX20 : List Cond := u_ws RX2 TX2 4
theorem nmX2 : ∀ a, a < 4 → ∀ b, b < 4 → a ≠ b → (TX2 a).2.1 ≠ (TX2 b).2.1 := by decide +kernel
theorem tyX2_ok : ∀ k, k < 4 → parseFieldDescriptor (TX2 k).2.2.1 = some (tyX2 k) := by decide +kernel
abbrev cX2_init : ByteArray := prog_4_method_1_code
def yX2_init : MethodName := ⟨RX2, "<init>", "()V"⟩
abbrev cX2_takeFrom : ByteArray := prog_4_method_2_code
def yX2_takeFrom : MethodName := ⟨RX2, "takeFrom", "(LWordKin$Text;)V"⟩
abbrev cX2_hasRoot : ByteArray := prog_4_method_3_code
def yX2_hasRoot : MethodName := ⟨RX2, "hasRoot", "(I)Z"⟩
abbrev cX2_hasEnding : ByteArray := prog_4_method_4_code
def yX2_hasEnding : MethodName := ⟨RX2, "hasEnding", "(I)Z"⟩
abbrev cX2_hasPair : ByteArray := prog_4_method_5_code
def yX2_hasPair : MethodName := ⟨RX2, "hasPair", "(II)Z"⟩
abbrev cX2_joined : ByteArray := prog_4_method_6_code
def yX2_joined : MethodName := ⟨RX2, "joined", "(II)I"⟩
def RX3 : String := "WordKin$Text"
def TX3 : u_T := fun k => match k with
  | 0 => ("WordKin$Text", "letters", "[I", true)
  | 1 => ("WordKin$Text", "length", "I", false)
  | 2 => ("WordKin$Text", "roots", "[I", true)
  | 3 => ("WordKin$Text", "endings", "[I", true)
  | 4 => ("WordKin$Text", "signs", "[I", true)
  | 5 => ("WordKin$Text", "rootCount", "I", false)
  | 6 => ("WordKin$Text", "endingCount", "I", false)
  | 7 => ("WordKin$Text", "changeCount", "I", false)
  | 8 => ("WordKin$Text", "partCount", "I", false)
  | 9 => ("WordKin$Text", "faultPlace", "I", false)
  | 10 => ("WordKin$Text", "faultPart", "I", false)
  | 11 => ("WordKin$Text", "kind", "I", false)
  | _ => ("WordKin$Text", "got", "I", false)
def tyX3 : Nat → FieldType := fun k => match k with
  | 0 => .array .int
  | 1 => .int
  | 2 => .array .int
  | 3 => .array .int
  | 4 => .array .int
  | 5 => .int
  | 6 => .int
  | 7 => .int
  | 8 => .int
  | 9 => .int
  | 10 => .int
  | 11 => .int
  | _ => .int
abbrev wsX30 : List Cond := u_ws RX3 TX3 13
theorem nmX3 : ∀ a, a < 13 → ∀ b, b < 13 → a ≠ b → (TX3 a).2.1 ≠ (TX3 b).2.1 := by decide +kernel
theorem tyX3_ok : ∀ k, k < 13 → parseFieldDescriptor (TX3 k).2.2.1 = some (tyX3 k) := by decide +kernel
abbrev cX3_init : ByteArray := prog_5_method_1_code
def yX3_init : MethodName := ⟨RX3, "<init>", "()V"⟩
abbrev cX3_append : ByteArray := prog_5_method_2_code
def yX3_append : MethodName := ⟨RX3, "append", "(I)Z"⟩
abbrev cX3_read : ByteArray := prog_5_method_3_code
def yX3_read : MethodName := ⟨RX3, "read", "()V"⟩
abbrev cX3_beginReading : ByteArray := prog_5_method_4_code
def yX3_beginReading : MethodName := ⟨RX3, "beginReading", "()V"⟩
abbrev cX3_isOfLetters : ByteArray := prog_5_method_5_code
def yX3_isOfLetters : MethodName := ⟨RX3, "isOfLetters", "()Z"⟩
abbrev cX3_needsMore : ByteArray := prog_5_method_6_code
def yX3_needsMore : MethodName := ⟨RX3, "needsMore", "()Z"⟩
abbrev cX3_beginPart : ByteArray := prog_5_method_7_code
def yX3_beginPart : MethodName := ⟨RX3, "beginPart", "(I)Z"⟩
abbrev cX3_goOnWith : ByteArray := prog_5_method_8_code
def yX3_goOnWith : MethodName := ⟨RX3, "goOnWith", "(I)Z"⟩
abbrev cX3_addLetter : ByteArray := prog_5_method_9_code
def yX3_addLetter : MethodName := ⟨RX3, "addLetter", "([IIII)Z"⟩
abbrev cX3_addSign : ByteArray := prog_5_method_10_code
def yX3_addSign : MethodName := ⟨RX3, "addSign", "(I)Z"⟩
abbrev cX3_isLetter : ByteArray := prog_5_method_11_code
def yX3_isLetter : MethodName := ⟨RX3, "isLetter", "(I)Z"⟩
abbrev cX3_signMeant : ByteArray := prog_5_method_12_code
def yX3_signMeant : MethodName := ⟨RX3, "signMeant", "(I)I"⟩
def RX4 : String := "WordKin$Ways"
def TX4 : u_T := fun k => match k with
  | 0 => ("WordKin$Ways", "stock", "LWordKin$Stock;", true)
  | 1 => ("WordKin$Ways", "signs", "[I", true)
  | 2 => ("WordKin$Ways", "line", "[I", true)
  | 3 => ("WordKin$Ways", "forms", "[I", true)
  | 4 => ("WordKin$Ways", "unlike", "[I", true)
  | _ => ("WordKin$Ways", "changeCount", "I", false)
def tyX4 : Nat → FieldType := fun k => match k with
  | 0 => .object "WordKin$Stock"
  | 1 => .array .int
  | 2 => .array .int
  | 3 => .array .int
  | 4 => .array .int
  | _ => .int
abbrev wsX40 : List Cond := u_ws RX4 TX4 6
theorem nmX4 : ∀ a, a < 6 → ∀ b, b < 6 → a ≠ b → (TX4 a).2.1 ≠ (TX4 b).2.1 := by decide +kernel
theorem tyX4_ok : ∀ k, k < 6 → parseFieldDescriptor (TX4 k).2.2.1 = some (tyX4 k) := by decide +kernel
abbrev cX4_init : ByteArray := prog_6_method_1_code
def yX4_init : MethodName := ⟨RX4, "<init>", "(LWordKin$Stock;)V"⟩
abbrev cX4_beginWith : ByteArray := prog_6_method_2_code
def yX4_beginWith : MethodName := ⟨RX4, "beginWith", "(LWordKin$Text;)V"⟩
abbrev cX4_takeFrom : ByteArray := prog_6_method_3_code
def yX4_takeFrom : MethodName := ⟨RX4, "takeFrom", "(LWordKin$Ways;)V"⟩
abbrev cX4_hasChange : ByteArray := prog_6_method_4_code
def yX4_hasChange : MethodName := ⟨RX4, "hasChange", "(I)Z"⟩
abbrev cX4_allChanges : ByteArray := prog_6_method_5_code
def yX4_allChanges : MethodName := ⟨RX4, "allChanges", "()I"⟩
abbrev cX4_signOf : ByteArray := prog_6_method_6_code
def yX4_signOf : MethodName := ⟨RX4, "signOf", "(II)I"⟩
abbrev cX4_putSign : ByteArray := prog_6_method_7_code
def yX4_putSign : MethodName := ⟨RX4, "putSign", "(III)V"⟩
abbrev cX4_formOf : ByteArray := prog_6_method_8_code
def yX4_formOf : MethodName := ⟨RX4, "formOf", "(II)I"⟩
abbrev cX4_putForm : ByteArray := prog_6_method_9_code
def yX4_putForm : MethodName := ⟨RX4, "putForm", "(III)V"⟩
abbrev cX4_formCount : ByteArray := prog_6_method_10_code
def yX4_formCount : MethodName := ⟨RX4, "formCount", "()I"⟩
abbrev cX4_orderByNumber : ByteArray := prog_6_method_11_code
def yX4_orderByNumber : MethodName := ⟨RX4, "orderByNumber", "()V"⟩
abbrev cX4_exchange : ByteArray := prog_6_method_12_code
def yX4_exchange : MethodName := ⟨RX4, "exchange", "(II)V"⟩
abbrev cX4_goToNextOrder : ByteArray := prog_6_method_13_code
def yX4_goToNextOrder : MethodName := ⟨RX4, "goToNextOrder", "()Z"⟩
abbrev cX4_orderFigures : ByteArray := prog_6_method_14_code
def yX4_orderFigures : MethodName := ⟨RX4, "orderFigures", "()I"⟩
abbrev cX4_goOver : ByteArray := prog_6_method_15_code
def yX4_goOver : MethodName := ⟨RX4, "goOver", "(II)I"⟩
abbrev cX4_walk : ByteArray := prog_6_method_16_code
def yX4_walk : MethodName := ⟨RX4, "walk", "(II)I"⟩
abbrev cX4_walkWith : ByteArray := prog_6_method_17_code
def yX4_walkWith : MethodName := ⟨RX4, "walkWith", "(II)I"⟩
abbrev cX4_makeOf : ByteArray := prog_6_method_18_code
def yX4_makeOf : MethodName := ⟨RX4, "makeOf", "(II)I"⟩
abbrev cX4_unlikeWords : ByteArray := prog_6_method_19_code
def yX4_unlikeWords : MethodName := ⟨RX4, "unlikeWords", "(I)I"⟩
abbrev cX4_isAmongUnlike : ByteArray := prog_6_method_20_code
def yX4_isAmongUnlike : MethodName := ⟨RX4, "isAmongUnlike", "(II)Z"⟩
abbrev cX4_activeChanges : ByteArray := prog_6_method_21_code
def yX4_activeChanges : MethodName := ⟨RX4, "activeChanges", "()I"⟩
abbrev cX4_activeOver : ByteArray := prog_6_method_22_code
def yX4_activeOver : MethodName := ⟨RX4, "activeOver", "(I)I"⟩
abbrev cX4_exceptions : ByteArray := prog_6_method_23_code
def yX4_exceptions : MethodName := ⟨RX4, "exceptions", "()I"⟩
abbrev cX4_doCross : ByteArray := prog_6_method_24_code
def yX4_doCross : MethodName := ⟨RX4, "doCross", "(II)Z"⟩
def RX5 : String := "WordKin$Words"
def TX5 : u_T := fun k => match k with
  | _ => ("", "", "", false)
def tyX5 : Nat → FieldType := fun k => match k with
  | _ => .int
abbrev wsX50 : List Cond := u_ws RX5 TX5 0
theorem nmX5 : ∀ a, a < 0 → ∀ b, b < 0 → a ≠ b → (TX5 a).2.1 ≠ (TX5 b).2.1 := by decide +kernel
theorem tyX5_ok : ∀ k, k < 0 → parseFieldDescriptor (TX5 k).2.2.1 = some (tyX5 k) := by decide +kernel
abbrev cX5_isWord : ByteArray := prog_7_method_2_code
def yX5_isWord : MethodName := ⟨RX5, "isWord", "(I)Z"⟩
abbrev cX5_lengthOf : ByteArray := prog_7_method_3_code
def yX5_lengthOf : MethodName := ⟨RX5, "lengthOf", "(I)I"⟩
abbrev cX5_letterAt : ByteArray := prog_7_method_4_code
def yX5_letterAt : MethodName := ⟨RX5, "letterAt", "(II)I"⟩
abbrev cX5_join : ByteArray := prog_7_method_5_code
def yX5_join : MethodName := ⟨RX5, "join", "(II)I"⟩
abbrev cX5_fits : ByteArray := prog_7_method_6_code
def yX5_fits : MethodName := ⟨RX5, "fits", "(II)Z"⟩
def RX6 : String := "WordKin"
def TX6 : u_T := fun k => match k with
  | 0 => ("WordKin", "text", "LWordKin$Text;", true)
  | 1 => ("WordKin", "stock", "LWordKin$Stock;", true)
  | 2 => ("WordKin", "ways", "LWordKin$Ways;", true)
  | 3 => ("WordKin", "trial", "LWordKin$Ways;", true)
  | 4 => ("WordKin", "kept", "[LWordKin$Ways;", true)
  | 5 => ("WordKin", "isKept", "[Z", true)
  | 6 => ("WordKin", "doings", "LWordKin$Doings;", true)
  | 7 => ("WordKin", "sightings", "LWordKin$Sightings;", true)
  | _ => ("WordKin", "seedNow", "J", false)
def tyX6 : Nat → FieldType := fun k => match k with
  | 0 => .object "WordKin$Text"
  | 1 => .object "WordKin$Stock"
  | 2 => .object "WordKin$Ways"
  | 3 => .object "WordKin$Ways"
  | 4 => .array (.object "WordKin$Ways")
  | 5 => .array .boolean
  | 6 => .object "WordKin$Doings"
  | 7 => .object "WordKin$Sightings"
  | _ => .long
abbrev wsX60 : List Cond := u_ws RX6 TX6 9
theorem nmX6 : ∀ a, a < 9 → ∀ b, b < 9 → a ≠ b → (TX6 a).2.1 ≠ (TX6 b).2.1 := by decide +kernel
theorem tyX6_ok : ∀ k, k < 9 → parseFieldDescriptor (TX6 k).2.2.1 = some (tyX6 k) := by decide +kernel
abbrev cX6_init : ByteArray := prog_1_method_1_code
def yX6_init : MethodName := ⟨RX6, "<init>", "()V"⟩
abbrev cX6_write : ByteArray := prog_1_method_2_code
def yX6_write : MethodName := ⟨RX6, "write", "(I)I"⟩
abbrev cX6_wipe : ByteArray := prog_1_method_3_code
def yX6_wipe : MethodName := ⟨RX6, "wipe", "()I"⟩
abbrev cX6_fault : ByteArray := prog_1_method_4_code
def yX6_fault : MethodName := ⟨RX6, "fault", "(I)I"⟩
abbrev cX6_list : ByteArray := prog_1_method_5_code
def yX6_list : MethodName := ⟨RX6, "list", "()I"⟩
abbrev cX6_about : ByteArray := prog_1_method_6_code
def yX6_about : MethodName := ⟨RX6, "about", "(I)I"⟩
abbrev cX6_part : ByteArray := prog_1_method_7_code
def yX6_part : MethodName := ⟨RX6, "part", "(II)I"⟩
abbrev cX6_sign : ByteArray := prog_1_method_8_code
def yX6_sign : MethodName := ⟨RX6, "sign", "(II)I"⟩
abbrev cX6_order : ByteArray := prog_1_method_9_code
def yX6_order : MethodName := ⟨RX6, "order", "(I)I"⟩
abbrev cX6_made : ByteArray := prog_1_method_10_code
def yX6_made : MethodName := ⟨RX6, "made", "(II)I"⟩
abbrev cX6_step : ByteArray := prog_1_method_11_code
def yX6_step : MethodName := ⟨RX6, "step", "(III)I"⟩
abbrev cX6_apart : ByteArray := prog_1_method_12_code
def yX6_apart : MethodName := ⟨RX6, "apart", "(II)I"⟩
abbrev cX6_form : ByteArray := prog_1_method_13_code
def yX6_form : MethodName := ⟨RX6, "form", "(II)I"⟩
abbrev cX6_swap : ByteArray := prog_1_method_14_code
def yX6_swap : MethodName := ⟨RX6, "swap", "(II)I"⟩
abbrev cX6_resign : ByteArray := prog_1_method_15_code
def yX6_resign : MethodName := ⟨RX6, "resign", "(III)I"⟩
abbrev cX6_tell : ByteArray := prog_1_method_16_code
def yX6_tell : MethodName := ⟨RX6, "tell", "(III)I"⟩
abbrev cX6_undo : ByteArray := prog_1_method_17_code
def yX6_undo : MethodName := ⟨RX6, "undo", "()I"⟩
abbrev cX6_cross : ByteArray := prog_1_method_18_code
def yX6_cross : MethodName := ⟨RX6, "cross", "(II)I"⟩
abbrev cX6_best : ByteArray := prog_1_method_19_code
def yX6_best : MethodName := ⟨RX6, "best", "(I)I"⟩
abbrev cX6_judge : ByteArray := prog_1_method_20_code
def yX6_judge : MethodName := ⟨RX6, "judge", "(IJ)I"⟩
abbrev cX6_share : ByteArray := prog_1_method_21_code
def yX6_share : MethodName := ⟨RX6, "share", "(IZ)I"⟩
abbrev cX6_see : ByteArray := prog_1_method_22_code
def yX6_see : MethodName := ⟨RX6, "see", "(IIII)I"⟩
abbrev cX6_unsee : ByteArray := prog_1_method_23_code
def yX6_unsee : MethodName := ⟨RX6, "unsee", "()I"⟩
abbrev cX6_which : ByteArray := prog_1_method_24_code
def yX6_which : MethodName := ⟨RX6, "which", "(I)I"⟩
abbrev cX6_fails : ByteArray := prog_1_method_25_code
def yX6_fails : MethodName := ⟨RX6, "fails", "(IIIZ)I"⟩
abbrev cX6_seed : ByteArray := prog_1_method_26_code
def yX6_seed : MethodName := ⟨RX6, "seed", "(J)J"⟩
abbrev cX6_drawn : ByteArray := prog_1_method_27_code
def yX6_drawn : MethodName := ⟨RX6, "drawn", "(I)I"⟩
abbrev cX6_keep : ByteArray := prog_1_method_28_code
def yX6_keep : MethodName := ⟨RX6, "keep", "(I)I"⟩
abbrev cX6_again : ByteArray := prog_1_method_29_code
def yX6_again : MethodName := ⟨RX6, "again", "(I)I"⟩
abbrev cX6_isSlot : ByteArray := prog_1_method_30_code
def yX6_isSlot : MethodName := ⟨RX6, "isSlot", "(I)Z"⟩
abbrev cX6_isSignPlace : ByteArray := prog_1_method_31_code
def yX6_isSignPlace : MethodName := ⟨RX6, "isSignPlace", "(I)Z"⟩
abbrev cX6_allowsSign : ByteArray := prog_1_method_32_code
def yX6_allowsSign : MethodName := ⟨RX6, "allowsSign", "(II)Z"⟩
abbrev cX6_withoutLastFours : ByteArray := prog_1_method_33_code
def yX6_withoutLastFours : MethodName := ⟨RX6, "withoutLastFours", "(JI)J"⟩
abbrev cX6_canBe : ByteArray := prog_1_method_34_code
def yX6_canBe : MethodName := ⟨RX6, "canBe", "(IIII)Z"⟩
abbrev cX6_canSwap : ByteArray := prog_1_method_35_code
def yX6_canSwap : MethodName := ⟨RX6, "canSwap", "(II)Z"⟩
abbrev cX6_canSign : ByteArray := prog_1_method_36_code
def yX6_canSign : MethodName := ⟨RX6, "canSign", "(III)Z"⟩
abbrev cX6_rootDrawnFrom : ByteArray := prog_1_method_37_code
def yX6_rootDrawnFrom : MethodName := ⟨RX6, "rootDrawnFrom", "(I)I"⟩
abbrev cX6_power : ByteArray := prog_1_method_38_code
def yX6_power : MethodName := ⟨RX6, "power", "(II)I"⟩
abbrev cX6_fraction : ByteArray := prog_1_method_39_code
def yX6_fraction : MethodName := ⟨RX6, "fraction", "(IIZ)I"⟩
abbrev cX6_sharedDivisor : ByteArray := prog_1_method_40_code
def yX6_sharedDivisor : MethodName := ⟨RX6, "sharedDivisor", "(II)I"⟩
def RX7 : String := "WordKinModel"
def TX7 : u_T := fun k => match k with
  | 0 => ("WordKinModel", "text", "[I", true)
  | 1 => ("WordKinModel", "length", "I", false)
  | 2 => ("WordKinModel", "now", "[I", true)
  | 3 => ("WordKinModel", "trial", "[I", true)
  | 4 => ("WordKinModel", "diary", "[I", true)
  | 5 => ("WordKinModel", "doings", "I", false)
  | 6 => ("WordKinModel", "next", "I", false)
  | 7 => ("WordKinModel", "kept", "[I", true)
  | 8 => ("WordKinModel", "isKept", "[Z", true)
  | 9 => ("WordKinModel", "rootWord", "[I", true)
  | 10 => ("WordKinModel", "endWord", "[I", true)
  | 11 => ("WordKinModel", "roots", "I", false)
  | 12 => ("WordKinModel", "endings", "I", false)
  | 13 => ("WordKinModel", "changes", "I", false)
  | 14 => ("WordKinModel", "readRoot", "[I", true)
  | 15 => ("WordKinModel", "readEnd", "[I", true)
  | 16 => ("WordKinModel", "readSign", "[I", true)
  | 17 => ("WordKinModel", "readRoots", "I", false)
  | 18 => ("WordKinModel", "readEnds", "I", false)
  | 19 => ("WordKinModel", "readChanges", "I", false)
  | 20 => ("WordKinModel", "parts", "I", false)
  | 21 => ("WordKinModel", "faultPart", "I", false)
  | 22 => ("WordKinModel", "seenEnding", "[I", true)
  | 23 => ("WordKinModel", "seenAt", "[I", true)
  | 24 => ("WordKinModel", "seenLetter", "[I", true)
  | 25 => ("WordKinModel", "seenWas", "[I", true)
  | 26 => ("WordKinModel", "seen", "I", false)
  | 27 => ("WordKinModel", "seed", "J", false)
  | 28 => ("WordKinModel", "words", "[I", true)
  | _ => ("WordKinModel", "worth", "[I", true)
def tyX7 : Nat → FieldType := fun k => match k with
  | 0 => .array .int
  | 1 => .int
  | 2 => .array .int
  | 3 => .array .int
  | 4 => .array .int
  | 5 => .int
  | 6 => .int
  | 7 => .array .int
  | 8 => .array .boolean
  | 9 => .array .int
  | 10 => .array .int
  | 11 => .int
  | 12 => .int
  | 13 => .int
  | 14 => .array .int
  | 15 => .array .int
  | 16 => .array .int
  | 17 => .int
  | 18 => .int
  | 19 => .int
  | 20 => .int
  | 21 => .int
  | 22 => .array .int
  | 23 => .array .int
  | 24 => .array .int
  | 25 => .array .int
  | 26 => .int
  | 27 => .long
  | 28 => .array .int
  | _ => .array .int
abbrev wsX70 : List Cond := u_ws RX7 TX7 30
theorem nmX7 : ∀ a, a < 30 → ∀ b, b < 30 → a ≠ b → (TX7 a).2.1 ≠ (TX7 b).2.1 := by decide +kernel
theorem tyX7_ok : ∀ k, k < 30 → parseFieldDescriptor (TX7 k).2.2.1 = some (tyX7 k) := by decide +kernel
abbrev cX7_init : ByteArray := prog_9_method_1_code
def yX7_init : MethodName := ⟨RX7, "<init>", "()V"⟩
abbrev cX7_forgetForms : ByteArray := prog_9_method_3_code
def yX7_forgetForms : MethodName := ⟨RX7, "forgetForms", "()V"⟩
abbrev cX7_in : ByteArray := prog_9_method_4_code
def yX7_in : MethodName := ⟨RX7, "in", "(JJJ)Z"⟩
abbrev cX7_has : ByteArray := prog_9_method_5_code
def yX7_has : MethodName := ⟨RX7, "has", "(II)Z"⟩
abbrev cX7_ones : ByteArray := prog_9_method_6_code
def yX7_ones : MethodName := ⟨RX7, "ones", "(I)I"⟩
abbrev cX7_power : ByteArray := prog_9_method_7_code
def yX7_power : MethodName := ⟨RX7, "power", "(II)I"⟩
abbrev cX7_factorial : ByteArray := prog_9_method_8_code
def yX7_factorial : MethodName := ⟨RX7, "factorial", "(I)I"⟩
abbrev cX7_divisor : ByteArray := prog_9_method_9_code
def yX7_divisor : MethodName := ⟨RX7, "divisor", "(II)I"⟩
abbrev cX7_fraction : ByteArray := prog_9_method_10_code
def yX7_fraction : MethodName := ⟨RX7, "fraction", "(IIZ)I"⟩
abbrev cX7_size : ByteArray := prog_9_method_11_code
def yX7_size : MethodName := ⟨RX7, "size", "(I)I"⟩
abbrev cX7_letterAt : ByteArray := prog_9_method_12_code
def yX7_letterAt : MethodName := ⟨RX7, "letterAt", "(II)I"⟩
abbrev cX7_isWord : ByteArray := prog_9_method_13_code
def yX7_isWord : MethodName := ⟨RX7, "isWord", "(I)Z"⟩
abbrev cX7_fits : ByteArray := prog_9_method_14_code
def yX7_fits : MethodName := ⟨RX7, "fits", "(II)Z"⟩
abbrev cX7_changed : ByteArray := prog_9_method_15_code
def yX7_changed : MethodName := ⟨RX7, "changed", "([III)I"⟩
abbrev cX7_behindAll : ByteArray := prog_9_method_16_code
def yX7_behindAll : MethodName := ⟨RX7, "behindAll", "([IIII)I"⟩
abbrev cX7_join : ByteArray := prog_9_method_17_code
def yX7_join : MethodName := ⟨RX7, "join", "(II)I"⟩
abbrev cX7_raw : ByteArray := prog_9_method_18_code
def yX7_raw : MethodName := ⟨RX7, "raw", "(II)I"⟩
abbrev cX7_madeBy : ByteArray := prog_9_method_19_code
def yX7_madeBy : MethodName := ⟨RX7, "madeBy", "([IIII)I"⟩
abbrev cX7_isRoot : ByteArray := prog_9_method_20_code
def yX7_isRoot : MethodName := ⟨RX7, "isRoot", "(I)Z"⟩
abbrev cX7_isEnding : ByteArray := prog_9_method_21_code
def yX7_isEnding : MethodName := ⟨RX7, "isEnding", "(I)Z"⟩
abbrev cX7_isChange : ByteArray := prog_9_method_22_code
def yX7_isChange : MethodName := ⟨RX7, "isChange", "(I)Z"⟩
abbrev cX7_write : ByteArray := prog_9_method_23_code
def yX7_write : MethodName := ⟨RX7, "write", "(I)I"⟩
abbrev cX7_wipe : ByteArray := prog_9_method_24_code
def yX7_wipe : MethodName := ⟨RX7, "wipe", "()I"⟩
abbrev cX7_begun : ByteArray := prog_9_method_25_code
def yX7_begun : MethodName := ⟨RX7, "begun", "(I)I"⟩
abbrev cX7_isLetter : ByteArray := prog_9_method_26_code
def yX7_isLetter : MethodName := ⟨RX7, "isLetter", "(I)Z"⟩
abbrev cX7_signOf : ByteArray := prog_9_method_27_code
def yX7_signOf : MethodName := ⟨RX7, "signOf", "(II)I"⟩
abbrev cX7_mostOf : ByteArray := prog_9_method_28_code
def yX7_mostOf : MethodName := ⟨RX7, "mostOf", "(I)I"⟩
abbrev cX7_mayEnd : ByteArray := prog_9_method_29_code
def yX7_mayEnd : MethodName := ⟨RX7, "mayEnd", "(II)Z"⟩
abbrev cX7_begin : ByteArray := prog_9_method_30_code
def yX7_begin : MethodName := ⟨RX7, "begin", "(I)V"⟩
abbrev cX7_take : ByteArray := prog_9_method_31_code
def yX7_take : MethodName := ⟨RX7, "take", "(III)Z"⟩
abbrev cX7_readText : ByteArray := prog_9_method_32_code
def yX7_readText : MethodName := ⟨RX7, "readText", "()I"⟩
abbrev cX7_fault : ByteArray := prog_9_method_33_code
def yX7_fault : MethodName := ⟨RX7, "fault", "(I)I"⟩
abbrev cX7_list : ByteArray := prog_9_method_34_code
def yX7_list : MethodName := ⟨RX7, "list", "()I"⟩
abbrev cX7_unlike : ByteArray := prog_9_method_35_code
def yX7_unlike : MethodName := ⟨RX7, "unlike", "([II)I"⟩
abbrev cX7_active : ByteArray := prog_9_method_36_code
def yX7_active : MethodName := ⟨RX7, "active", "([I)I"⟩
abbrev cX7_exceptions : ByteArray := prog_9_method_37_code
def yX7_exceptions : MethodName := ⟨RX7, "exceptions", "([I)I"⟩
abbrev cX7_manyForms : ByteArray := prog_9_method_38_code
def yX7_manyForms : MethodName := ⟨RX7, "manyForms", "()I"⟩
abbrev cX7_about : ByteArray := prog_9_method_39_code
def yX7_about : MethodName := ⟨RX7, "about", "(I)I"⟩
abbrev cX7_part : ByteArray := prog_9_method_40_code
def yX7_part : MethodName := ⟨RX7, "part", "(II)I"⟩
abbrev cX7_sign : ByteArray := prog_9_method_41_code
def yX7_sign : MethodName := ⟨RX7, "sign", "(II)I"⟩
abbrev cX7_order : ByteArray := prog_9_method_42_code
def yX7_order : MethodName := ⟨RX7, "order", "(I)I"⟩
abbrev cX7_made : ByteArray := prog_9_method_43_code
def yX7_made : MethodName := ⟨RX7, "made", "(II)I"⟩
abbrev cX7_step : ByteArray := prog_9_method_44_code
def yX7_step : MethodName := ⟨RX7, "step", "(III)I"⟩
abbrev cX7_apart : ByteArray := prog_9_method_45_code
def yX7_apart : MethodName := ⟨RX7, "apart", "(II)I"⟩
abbrev cX7_form : ByteArray := prog_9_method_46_code
def yX7_form : MethodName := ⟨RX7, "form", "(II)I"⟩
abbrev cX7_noteDoing : ByteArray := prog_9_method_47_code
def yX7_noteDoing : MethodName := ⟨RX7, "noteDoing", "()V"⟩
abbrev cX7_swapOn : ByteArray := prog_9_method_48_code
def yX7_swapOn : MethodName := ⟨RX7, "swapOn", "([III)V"⟩
abbrev cX7_isSign : ByteArray := prog_9_method_49_code
def yX7_isSign : MethodName := ⟨RX7, "isSign", "(II)Z"⟩
abbrev cX7_swap : ByteArray := prog_9_method_50_code
def yX7_swap : MethodName := ⟨RX7, "swap", "(II)I"⟩
abbrev cX7_resign : ByteArray := prog_9_method_51_code
def yX7_resign : MethodName := ⟨RX7, "resign", "(III)I"⟩
abbrev cX7_tell : ByteArray := prog_9_method_52_code
def yX7_tell : MethodName := ⟨RX7, "tell", "(III)I"⟩
abbrev cX7_undo : ByteArray := prog_9_method_53_code
def yX7_undo : MethodName := ⟨RX7, "undo", "()I"⟩
abbrev cX7_areCrossing : ByteArray := prog_9_method_54_code
def yX7_areCrossing : MethodName := ⟨RX7, "areCrossing", "([III)Z"⟩
abbrev cX7_cross : ByteArray := prog_9_method_55_code
def yX7_cross : MethodName := ⟨RX7, "cross", "(II)I"⟩
abbrev cX7_changeAt : ByteArray := prog_9_method_56_code
def yX7_changeAt : MethodName := ⟨RX7, "changeAt", "(II)I"⟩
abbrev cX7_isOrder : ByteArray := prog_9_method_57_code
def yX7_isOrder : MethodName := ⟨RX7, "isOrder", "(I)Z"⟩
abbrev cX7_figuresOf : ByteArray := prog_9_method_58_code
def yX7_figuresOf : MethodName := ⟨RX7, "figuresOf", "(I)I"⟩
abbrev cX7_layTrial : ByteArray := prog_9_method_59_code
def yX7_layTrial : MethodName := ⟨RX7, "layTrial", "()V"⟩
abbrev cX7_best : ByteArray := prog_9_method_60_code
def yX7_best : MethodName := ⟨RX7, "best", "(I)I"⟩
abbrev cX7_judged : ByteArray := prog_9_method_61_code
def yX7_judged : MethodName := ⟨RX7, "judged", "(IIII)Z"⟩
abbrev cX7_tenThousands : ByteArray := prog_9_method_62_code
def yX7_tenThousands : MethodName := ⟨RX7, "tenThousands", "(I)J"⟩
abbrev cX7_judge : ByteArray := prog_9_method_63_code
def yX7_judge : MethodName := ⟨RX7, "judge", "(IJ)I"⟩
abbrev cX7_share : ByteArray := prog_9_method_64_code
def yX7_share : MethodName := ⟨RX7, "share", "(IZ)I"⟩
abbrev cX7_see : ByteArray := prog_9_method_65_code
def yX7_see : MethodName := ⟨RX7, "see", "(IIII)I"⟩
abbrev cX7_unsee : ByteArray := prog_9_method_66_code
def yX7_unsee : MethodName := ⟨RX7, "unsee", "()I"⟩
abbrev cX7_agrees : ByteArray := prog_9_method_67_code
def yX7_agrees : MethodName := ⟨RX7, "agrees", "(I)Z"⟩
abbrev cX7_which : ByteArray := prog_9_method_68_code
def yX7_which : MethodName := ⟨RX7, "which", "(I)I"⟩
abbrev cX7_fails : ByteArray := prog_9_method_69_code
def yX7_fails : MethodName := ⟨RX7, "fails", "(IIIZ)I"⟩
abbrev cX7_seed : ByteArray := prog_9_method_70_code
def yX7_seed : MethodName := ⟨RX7, "seed", "(J)J"⟩
abbrev cX7_drawn : ByteArray := prog_9_method_71_code
def yX7_drawn : MethodName := ⟨RX7, "drawn", "(I)I"⟩
abbrev cX7_keep : ByteArray := prog_9_method_72_code
def yX7_keep : MethodName := ⟨RX7, "keep", "(I)I"⟩
abbrev cX7_again : ByteArray := prog_9_method_73_code
def yX7_again : MethodName := ⟨RX7, "again", "(I)I"⟩
def RJ6 : String := "java/lang/Integer"
def TJ6 : u_T := fun k => match k with
  | _ => ("", "", "", false)
def tyJ6 : Nat → FieldType := fun k => match k with
  | _ => .int
abbrev wsJ60 : List Cond := u_ws RJ6 TJ6 0
theorem nmJ6 : ∀ a, a < 0 → ∀ b, b < 0 → a ≠ b → (TJ6 a).2.1 ≠ (TJ6 b).2.1 := by decide +kernel
theorem tyJ6_ok : ∀ k, k < 0 → parseFieldDescriptor (TJ6 k).2.2.1 = some (tyJ6 k) := by decide +kernel
abbrev cJ6_bitCount_0f7a4 : ByteArray := prog_10_method_49_code
def yJ6_bitCount_0f7a4 : MethodName := ⟨RJ6, "bitCount", "(I)I"⟩
def RJ9 : String := "java/lang/Math"
def TJ9 : u_T := fun k => match k with
  | _ => ("", "", "", false)
def tyJ9 : Nat → FieldType := fun k => match k with
  | _ => .int
abbrev wsJ90 : List Cond := u_ws RJ9 TJ9 0
theorem nmJ9 : ∀ a, a < 0 → ∀ b, b < 0 → a ≠ b → (TJ9 a).2.1 ≠ (TJ9 b).2.1 := by decide +kernel
theorem tyJ9_ok : ∀ k, k < 0 → parseFieldDescriptor (TJ9 k).2.2.1 = some (tyJ9 k) := by decide +kernel
abbrev cJ9_abs_0f7a4 : ByteArray := prog_11_method_59_code
def yJ9_abs_0f7a4 : MethodName := ⟨RJ9, "abs", "(I)I"⟩
def RJ10 : String := "java/lang/System"
def TJ10 : u_T := fun k => match k with
  | _ => ("", "", "", false)
def tyJ10 : Nat → FieldType := fun k => match k with
  | _ => .int
abbrev wsJ100 : List Cond := u_ws RJ10 TJ10 0
theorem nmJ10 : ∀ a, a < 0 → ∀ b, b < 0 → a ≠ b → (TJ10 a).2.1 ≠ (TJ10 b).2.1 := by decide +kernel
theorem tyJ10_ok : ∀ k, k < 0 → parseFieldDescriptor (TJ10 k).2.2.1 = some (tyJ10 k) := by decide +kernel
def RL : String := "WordKinLaw"
abbrev cL_law : ByteArray := code
def yL_law : MethodName := ⟨RL, "law", "([I)Z"⟩
