section
-- ===== PART A: goes FIRST, ahead of the names: the tables' words, and 'selects' of the private methods out of them =====
/-- a private method of a class that the tables say can be made, by its rows of tables_1 -/
def lw_okq (q : MethodName × Nat) : Prop := (q.1.cls ≠ "java/lang/invoke/MethodHandle" ∧ q.1.cls ≠ "java/lang/invoke/VarHandle") ∧ Cond.instantiable q.1.cls q.2 ∈ tables_1 ∧ Cond.privateMethod q.1 ∈ tables_1 ∧ Cond.instanceMethod q.1 ∈ tables_1
theorem lw_p0 : lw_okq (⟨"WordKin$Text", "beginReading", "()V"⟩, 13) := ⟨⟨by decide +kernel, by decide +kernel⟩, List.mem_of_getElem? (i := 21) (by decide +kernel), List.mem_of_getElem? (i := 231) (by decide +kernel), List.mem_of_getElem? (i := 232) (by decide +kernel)⟩
theorem lw_p1 : lw_okq (⟨"WordKin$Text", "needsMore", "()Z"⟩, 13) := ⟨⟨by decide +kernel, by decide +kernel⟩, List.mem_of_getElem? (i := 21) (by decide +kernel), List.mem_of_getElem? (i := 235) (by decide +kernel), List.mem_of_getElem? (i := 236) (by decide +kernel)⟩
theorem lw_p2 : lw_okq (⟨"WordKin$Text", "isOfLetters", "()Z"⟩, 13) := ⟨⟨by decide +kernel, by decide +kernel⟩, List.mem_of_getElem? (i := 21) (by decide +kernel), List.mem_of_getElem? (i := 239) (by decide +kernel), List.mem_of_getElem? (i := 240) (by decide +kernel)⟩
theorem lw_p3 : lw_okq (⟨"WordKin$Text", "goOnWith", "(I)Z"⟩, 13) := ⟨⟨by decide +kernel, by decide +kernel⟩, List.mem_of_getElem? (i := 21) (by decide +kernel), List.mem_of_getElem? (i := 246) (by decide +kernel), List.mem_of_getElem? (i := 247) (by decide +kernel)⟩
theorem lw_p4 : lw_okq (⟨"WordKin$Text", "addLetter", "([IIII)Z"⟩, 13) := ⟨⟨by decide +kernel, by decide +kernel⟩, List.mem_of_getElem? (i := 21) (by decide +kernel), List.mem_of_getElem? (i := 250) (by decide +kernel), List.mem_of_getElem? (i := 251) (by decide +kernel)⟩
theorem lw_p5 : lw_okq (⟨"WordKin$Text", "addSign", "(I)Z"⟩, 13) := ⟨⟨by decide +kernel, by decide +kernel⟩, List.mem_of_getElem? (i := 21) (by decide +kernel), List.mem_of_getElem? (i := 257) (by decide +kernel), List.mem_of_getElem? (i := 258) (by decide +kernel)⟩
theorem lw_p6 : lw_okq (⟨"WordKin$Text", "beginPart", "(I)Z"⟩, 13) := ⟨⟨by decide +kernel, by decide +kernel⟩, List.mem_of_getElem? (i := 21) (by decide +kernel), List.mem_of_getElem? (i := 264) (by decide +kernel), List.mem_of_getElem? (i := 265) (by decide +kernel)⟩
theorem lw_p7 : lw_okq (⟨"WordKin$Ways", "isAmongUnlike", "(II)Z"⟩, 6) := ⟨⟨by decide +kernel, by decide +kernel⟩, List.mem_of_getElem? (i := 104) (by decide +kernel), List.mem_of_getElem? (i := 322) (by decide +kernel), List.mem_of_getElem? (i := 323) (by decide +kernel)⟩
theorem lw_p8 : lw_okq (⟨"WordKin$Ways", "activeOver", "(I)I"⟩, 6) := ⟨⟨by decide +kernel, by decide +kernel⟩, List.mem_of_getElem? (i := 104) (by decide +kernel), List.mem_of_getElem? (i := 330) (by decide +kernel), List.mem_of_getElem? (i := 331) (by decide +kernel)⟩
theorem lw_p9 : lw_okq (⟨"WordKin", "canBe", "(IIII)Z"⟩, 9) := ⟨⟨by decide +kernel, by decide +kernel⟩, List.mem_of_getElem? (i := 13) (by decide +kernel), List.mem_of_getElem? (i := 486) (by decide +kernel), List.mem_of_getElem? (i := 487) (by decide +kernel)⟩
theorem lw_p10 : lw_okq (⟨"WordKin", "canSwap", "(II)Z"⟩, 9) := ⟨⟨by decide +kernel, by decide +kernel⟩, List.mem_of_getElem? (i := 13) (by decide +kernel), List.mem_of_getElem? (i := 490) (by decide +kernel), List.mem_of_getElem? (i := 491) (by decide +kernel)⟩
theorem lw_p11 : lw_okq (⟨"WordKin", "canSign", "(III)Z"⟩, 9) := ⟨⟨by decide +kernel, by decide +kernel⟩, List.mem_of_getElem? (i := 13) (by decide +kernel), List.mem_of_getElem? (i := 494) (by decide +kernel), List.mem_of_getElem? (i := 495) (by decide +kernel)⟩
theorem lw_p12 : lw_okq (⟨"WordKinModel", "forgetForms", "()V"⟩, 30) := ⟨⟨by decide +kernel, by decide +kernel⟩, List.mem_of_getElem? (i := 581) (by decide +kernel), List.mem_of_getElem? (i := 587) (by decide +kernel), List.mem_of_getElem? (i := 588) (by decide +kernel)⟩
theorem lw_p13 : lw_okq (⟨"WordKinModel", "readText", "()I"⟩, 30) := ⟨⟨by decide +kernel, by decide +kernel⟩, List.mem_of_getElem? (i := 581) (by decide +kernel), List.mem_of_getElem? (i := 698) (by decide +kernel), List.mem_of_getElem? (i := 699) (by decide +kernel)⟩
theorem lw_p14 : lw_okq (⟨"WordKinModel", "begun", "(I)I"⟩, 30) := ⟨⟨by decide +kernel, by decide +kernel⟩, List.mem_of_getElem? (i := 581) (by decide +kernel), List.mem_of_getElem? (i := 705) (by decide +kernel), List.mem_of_getElem? (i := 706) (by decide +kernel)⟩
theorem lw_p15 : lw_okq (⟨"WordKinModel", "begin", "(I)V"⟩, 30) := ⟨⟨by decide +kernel, by decide +kernel⟩, List.mem_of_getElem? (i := 581) (by decide +kernel), List.mem_of_getElem? (i := 709) (by decide +kernel), List.mem_of_getElem? (i := 710) (by decide +kernel)⟩
def lw_privs_1 : List (MethodName × Nat) := [(⟨"WordKin$Text", "beginReading", "()V"⟩, 13), (⟨"WordKin$Text", "needsMore", "()Z"⟩, 13), (⟨"WordKin$Text", "isOfLetters", "()Z"⟩, 13), (⟨"WordKin$Text", "goOnWith", "(I)Z"⟩, 13), (⟨"WordKin$Text", "addLetter", "([IIII)Z"⟩, 13), (⟨"WordKin$Text", "addSign", "(I)Z"⟩, 13), (⟨"WordKin$Text", "beginPart", "(I)Z"⟩, 13), (⟨"WordKin$Ways", "isAmongUnlike", "(II)Z"⟩, 6), (⟨"WordKin$Ways", "activeOver", "(I)I"⟩, 6), (⟨"WordKin", "canBe", "(IIII)Z"⟩, 9), (⟨"WordKin", "canSwap", "(II)Z"⟩, 9), (⟨"WordKin", "canSign", "(III)Z"⟩, 9), (⟨"WordKinModel", "forgetForms", "()V"⟩, 30), (⟨"WordKinModel", "readText", "()I"⟩, 30), (⟨"WordKinModel", "begun", "(I)I"⟩, 30), (⟨"WordKinModel", "begin", "(I)V"⟩, 30)]
theorem lw_r1 : ∀ q ∈ lw_privs_1, lw_okq q := List.forall_mem_cons.mpr ⟨lw_p0, List.forall_mem_cons.mpr ⟨lw_p1, List.forall_mem_cons.mpr ⟨lw_p2, List.forall_mem_cons.mpr ⟨lw_p3, List.forall_mem_cons.mpr ⟨lw_p4, List.forall_mem_cons.mpr ⟨lw_p5, List.forall_mem_cons.mpr ⟨lw_p6, List.forall_mem_cons.mpr ⟨lw_p7, List.forall_mem_cons.mpr ⟨lw_p8, List.forall_mem_cons.mpr ⟨lw_p9, List.forall_mem_cons.mpr ⟨lw_p10, List.forall_mem_cons.mpr ⟨lw_p11, List.forall_mem_cons.mpr ⟨lw_p12, List.forall_mem_cons.mpr ⟨lw_p13, List.forall_mem_cons.mpr ⟨lw_p14, List.forall_mem_cons.mpr ⟨lw_p15, fun _ h => absurd h List.not_mem_nil⟩⟩⟩⟩⟩⟩⟩⟩⟩⟩⟩⟩⟩⟩⟩⟩
theorem lw_p16 : lw_okq (⟨"WordKinModel", "take", "(III)Z"⟩, 30) := ⟨⟨by decide +kernel, by decide +kernel⟩, List.mem_of_getElem? (i := 581) (by decide +kernel), List.mem_of_getElem? (i := 713) (by decide +kernel), List.mem_of_getElem? (i := 714) (by decide +kernel)⟩
theorem lw_p17 : lw_okq (⟨"WordKinModel", "unlike", "([II)I"⟩, 30) := ⟨⟨by decide +kernel, by decide +kernel⟩, List.mem_of_getElem? (i := 581) (by decide +kernel), List.mem_of_getElem? (i := 736) (by decide +kernel), List.mem_of_getElem? (i := 737) (by decide +kernel)⟩
theorem lw_p18 : lw_okq (⟨"WordKinModel", "madeBy", "([IIII)I"⟩, 30) := ⟨⟨by decide +kernel, by decide +kernel⟩, List.mem_of_getElem? (i := 581) (by decide +kernel), List.mem_of_getElem? (i := 740) (by decide +kernel), List.mem_of_getElem? (i := 741) (by decide +kernel)⟩
theorem lw_p19 : lw_okq (⟨"WordKinModel", "raw", "(II)I"⟩, 30) := ⟨⟨by decide +kernel, by decide +kernel⟩, List.mem_of_getElem? (i := 581) (by decide +kernel), List.mem_of_getElem? (i := 744) (by decide +kernel), List.mem_of_getElem? (i := 745) (by decide +kernel)⟩
theorem lw_p20 : lw_okq (⟨"WordKinModel", "active", "([I)I"⟩, 30) := ⟨⟨by decide +kernel, by decide +kernel⟩, List.mem_of_getElem? (i := 581) (by decide +kernel), List.mem_of_getElem? (i := 769) (by decide +kernel), List.mem_of_getElem? (i := 770) (by decide +kernel)⟩
theorem lw_p21 : lw_okq (⟨"WordKinModel", "exceptions", "([I)I"⟩, 30) := ⟨⟨by decide +kernel, by decide +kernel⟩, List.mem_of_getElem? (i := 581) (by decide +kernel), List.mem_of_getElem? (i := 773) (by decide +kernel), List.mem_of_getElem? (i := 774) (by decide +kernel)⟩
theorem lw_p22 : lw_okq (⟨"WordKinModel", "manyForms", "()I"⟩, 30) := ⟨⟨by decide +kernel, by decide +kernel⟩, List.mem_of_getElem? (i := 581) (by decide +kernel), List.mem_of_getElem? (i := 777) (by decide +kernel), List.mem_of_getElem? (i := 778) (by decide +kernel)⟩
theorem lw_p23 : lw_okq (⟨"WordKinModel", "isRoot", "(I)Z"⟩, 30) := ⟨⟨by decide +kernel, by decide +kernel⟩, List.mem_of_getElem? (i := 581) (by decide +kernel), List.mem_of_getElem? (i := 785) (by decide +kernel), List.mem_of_getElem? (i := 786) (by decide +kernel)⟩
theorem lw_p24 : lw_okq (⟨"WordKinModel", "isEnding", "(I)Z"⟩, 30) := ⟨⟨by decide +kernel, by decide +kernel⟩, List.mem_of_getElem? (i := 581) (by decide +kernel), List.mem_of_getElem? (i := 789) (by decide +kernel), List.mem_of_getElem? (i := 790) (by decide +kernel)⟩
theorem lw_p25 : lw_okq (⟨"WordKinModel", "isChange", "(I)Z"⟩, 30) := ⟨⟨by decide +kernel, by decide +kernel⟩, List.mem_of_getElem? (i := 581) (by decide +kernel), List.mem_of_getElem? (i := 797) (by decide +kernel), List.mem_of_getElem? (i := 798) (by decide +kernel)⟩
theorem lw_p26 : lw_okq (⟨"WordKinModel", "noteDoing", "()V"⟩, 30) := ⟨⟨by decide +kernel, by decide +kernel⟩, List.mem_of_getElem? (i := 581) (by decide +kernel), List.mem_of_getElem? (i := 831) (by decide +kernel), List.mem_of_getElem? (i := 832) (by decide +kernel)⟩
theorem lw_p27 : lw_okq (⟨"WordKinModel", "areCrossing", "([III)Z"⟩, 30) := ⟨⟨by decide +kernel, by decide +kernel⟩, List.mem_of_getElem? (i := 581) (by decide +kernel), List.mem_of_getElem? (i := 858) (by decide +kernel), List.mem_of_getElem? (i := 859) (by decide +kernel)⟩
theorem lw_p28 : lw_okq (⟨"WordKinModel", "layTrial", "()V"⟩, 30) := ⟨⟨by decide +kernel, by decide +kernel⟩, List.mem_of_getElem? (i := 581) (by decide +kernel), List.mem_of_getElem? (i := 867) (by decide +kernel), List.mem_of_getElem? (i := 868) (by decide +kernel)⟩
theorem lw_p29 : lw_okq (⟨"WordKinModel", "isOrder", "(I)Z"⟩, 30) := ⟨⟨by decide +kernel, by decide +kernel⟩, List.mem_of_getElem? (i := 581) (by decide +kernel), List.mem_of_getElem? (i := 871) (by decide +kernel), List.mem_of_getElem? (i := 872) (by decide +kernel)⟩
theorem lw_p30 : lw_okq (⟨"WordKinModel", "changeAt", "(II)I"⟩, 30) := ⟨⟨by decide +kernel, by decide +kernel⟩, List.mem_of_getElem? (i := 581) (by decide +kernel), List.mem_of_getElem? (i := 875) (by decide +kernel), List.mem_of_getElem? (i := 876) (by decide +kernel)⟩
theorem lw_p31 : lw_okq (⟨"WordKinModel", "figuresOf", "(I)I"⟩, 30) := ⟨⟨by decide +kernel, by decide +kernel⟩, List.mem_of_getElem? (i := 581) (by decide +kernel), List.mem_of_getElem? (i := 879) (by decide +kernel), List.mem_of_getElem? (i := 880) (by decide +kernel)⟩
def lw_privs_2 : List (MethodName × Nat) := [(⟨"WordKinModel", "take", "(III)Z"⟩, 30), (⟨"WordKinModel", "unlike", "([II)I"⟩, 30), (⟨"WordKinModel", "madeBy", "([IIII)I"⟩, 30), (⟨"WordKinModel", "raw", "(II)I"⟩, 30), (⟨"WordKinModel", "active", "([I)I"⟩, 30), (⟨"WordKinModel", "exceptions", "([I)I"⟩, 30), (⟨"WordKinModel", "manyForms", "()I"⟩, 30), (⟨"WordKinModel", "isRoot", "(I)Z"⟩, 30), (⟨"WordKinModel", "isEnding", "(I)Z"⟩, 30), (⟨"WordKinModel", "isChange", "(I)Z"⟩, 30), (⟨"WordKinModel", "noteDoing", "()V"⟩, 30), (⟨"WordKinModel", "areCrossing", "([III)Z"⟩, 30), (⟨"WordKinModel", "layTrial", "()V"⟩, 30), (⟨"WordKinModel", "isOrder", "(I)Z"⟩, 30), (⟨"WordKinModel", "changeAt", "(II)I"⟩, 30), (⟨"WordKinModel", "figuresOf", "(I)I"⟩, 30)]
theorem lw_r2 : ∀ q ∈ lw_privs_2, lw_okq q := List.forall_mem_cons.mpr ⟨lw_p16, List.forall_mem_cons.mpr ⟨lw_p17, List.forall_mem_cons.mpr ⟨lw_p18, List.forall_mem_cons.mpr ⟨lw_p19, List.forall_mem_cons.mpr ⟨lw_p20, List.forall_mem_cons.mpr ⟨lw_p21, List.forall_mem_cons.mpr ⟨lw_p22, List.forall_mem_cons.mpr ⟨lw_p23, List.forall_mem_cons.mpr ⟨lw_p24, List.forall_mem_cons.mpr ⟨lw_p25, List.forall_mem_cons.mpr ⟨lw_p26, List.forall_mem_cons.mpr ⟨lw_p27, List.forall_mem_cons.mpr ⟨lw_p28, List.forall_mem_cons.mpr ⟨lw_p29, List.forall_mem_cons.mpr ⟨lw_p30, List.forall_mem_cons.mpr ⟨lw_p31, fun _ h => absurd h List.not_mem_nil⟩⟩⟩⟩⟩⟩⟩⟩⟩⟩⟩⟩⟩⟩⟩⟩
theorem lw_p32 : lw_okq (⟨"WordKinModel", "judged", "(IIII)Z"⟩, 30) := ⟨⟨by decide +kernel, by decide +kernel⟩, List.mem_of_getElem? (i := 581) (by decide +kernel), List.mem_of_getElem? (i := 892) (by decide +kernel), List.mem_of_getElem? (i := 893) (by decide +kernel)⟩
theorem lw_p33 : lw_okq (⟨"WordKinModel", "agrees", "(I)Z"⟩, 30) := ⟨⟨by decide +kernel, by decide +kernel⟩, List.mem_of_getElem? (i := 581) (by decide +kernel), List.mem_of_getElem? (i := 921) (by decide +kernel), List.mem_of_getElem? (i := 922) (by decide +kernel)⟩
def lw_privs_3 : List (MethodName × Nat) := [(⟨"WordKinModel", "judged", "(IIII)Z"⟩, 30), (⟨"WordKinModel", "agrees", "(I)Z"⟩, 30)]
theorem lw_r3 : ∀ q ∈ lw_privs_3, lw_okq q := List.forall_mem_cons.mpr ⟨lw_p32, List.forall_mem_cons.mpr ⟨lw_p33, fun _ h => absurd h List.not_mem_nil⟩⟩
def lw_privs : List (MethodName × Nat) := lw_privs_1 ++ (lw_privs_2 ++ (lw_privs_3))
def lw_tbl : List Cond := k2_sels lw_privs ++ tables_1
theorem lw_privs_ok : ∀ q ∈ lw_privs, lw_okq q := by
  show ∀ q ∈ lw_privs_1 ++ (lw_privs_2 ++ (lw_privs_3)), lw_okq q
  exact List.forall_mem_append.mpr ⟨lw_r1, List.forall_mem_append.mpr ⟨lw_r2, lw_r3⟩⟩
def RX0 : String := "WordKin$Doings"
def TX0 : u_T := fun k => match k with
  | 0 => ("WordKin$Doings", "kinds", "[I", true)
  | 1 => ("WordKin$Doings", "ones", "[I", true)
  | 2 => ("WordKin$Doings", "others", "[I", true)
  | 3 => ("WordKin$Doings", "befores", "[I", true)
  | 4 => ("WordKin$Doings", "first", "I", false)
  | _ => ("WordKin$Doings", "count", "I", false)
def tyX0 : Nat → FieldType := fun k => match k with
  | 0 => .array .int
  | 1 => .array .int
  | 2 => .array .int
  | 3 => .array .int
  | 4 => .int
  | _ => .int
abbrev wsX00 : List Cond := u_ws RX0 TX0 6
theorem nmX0 : ∀ a, a < 6 → ∀ b, b < 6 → a ≠ b → (TX0 a).2.1 ≠ (TX0 b).2.1 := by decide +kernel
theorem tyX0_ok : ∀ k, k < 6 → parseFieldDescriptor (TX0 k).2.2.1 = some (tyX0 k) := by decide +kernel
abbrev cX0_init : ByteArray := prog_2_method_1_code
def yX0_init : MethodName := ⟨RX0, "<init>", "()V"⟩
abbrev cX0_add : ByteArray := prog_2_method_2_code
def yX0_add : MethodName := ⟨RX0, "add", "(IIII)V"⟩
abbrev cX0_takeBackLast : ByteArray := prog_2_method_3_code
def yX0_takeBackLast : MethodName := ⟨RX0, "takeBackLast", "(LWordKin$Ways;)V"⟩
def RX1 : String := "WordKin$Sightings"
def TX1 : u_T := fun k => match k with
  | 0 => ("WordKin$Sightings", "endings", "[I", true)
  | 1 => ("WordKin$Sightings", "places", "[I", true)
  | 2 => ("WordKin$Sightings", "letters", "[I", true)
  | 3 => ("WordKin$Sightings", "was", "[Z", true)
  | _ => ("WordKin$Sightings", "count", "I", false)
def tyX1 : Nat → FieldType := fun k => match k with
  | 0 => .array .int
  | 1 => .array .int
  | 2 => .array .int
  | 3 => .array .boolean
  | _ => .int
abbrev wsX10 : List Cond := u_ws RX1 TX1 5
theorem nmX1 : ∀ a, a < 5 → ∀ b, b < 5 → a ≠ b → (TX1 a).2.1 ≠ (TX1 b).2.1 := by decide +kernel
theorem tyX1_ok : ∀ k, k < 5 → parseFieldDescriptor (TX1 k).2.2.1 = some (tyX1 k) := by decide +kernel
abbrev cX1_init : ByteArray := prog_3_method_1_code
def yX1_init : MethodName := ⟨RX1, "<init>", "()V"⟩
abbrev cX1_add : ByteArray := prog_3_method_2_code
def yX1_add : MethodName := ⟨RX1, "add", "(IIIZ)Z"⟩
abbrev cX1_agreeWith : ByteArray := prog_3_method_3_code
def yX1_agreeWith : MethodName := ⟨RX1, "agreeWith", "(ILWordKin$Stock;LWordKin$Ways;)Z"⟩
def RX2 : String := "WordKin$Stock"
def TX2 : u_T := fun k => match k with
  | 0 => ("WordKin$Stock", "roots", "[I", true)
  | 1 => ("WordKin$Stock", "endings", "[I", true)
  | 2 => ("WordKin$Stock", "rootCount", "I", false)
  | _ => ("WordKin$Stock", "endingCount", "I", false)
def tyX2 : Nat → FieldType := fun k => match k with
  | 0 => .array .int
  | 1 => .array .int
  | 2 => .int
  | _ => .int
abbrev wsX20 : List Cond := u_ws RX2 TX2 4
theorem nmX2 : ∀ a, a < 4 → ∀ b, b < 4 → a ≠ b → (TX2 a).2.1 ≠ (TX2 b).2.1 := by decide +kernel
theorem tyX2_ok : ∀ k, k < 4 → parseFieldDescriptor (TX2 k).2.2.1 = some (tyX2 k) := by decide +kernel
abbrev cX2_init : ByteArray := prog_4_method_1_code
def yX2_init : MethodName := ⟨RX2, "<init>", "()V"⟩
abbrev cX2_takeFrom : ByteArray := prog_4_method_2_code
def yX2_takeFrom : MethodName := ⟨RX2, "takeFrom", "(LWordKin$Text;)V"⟩
abbrev cX2_hasRoot : ByteArray := prog_4_method_3_code
def yX2_hasRoot : MethodName := ⟨RX2, "hasRoot", "(I)Z"⟩
abbrev cX2_hasEnding : ByteArray := prog_4_method_4_code
def yX2_hasEnding : MethodName := ⟨RX2, "hasEnding", "(I)Z"⟩
abbrev cX2_hasPair : ByteArray := prog_4_method_5_code
def yX2_hasPair : MethodName := ⟨RX2, "hasPair", "(II)Z"⟩
abbrev cX2_joined : ByteArray := prog_4_method_6_code
def yX2_joined : MethodName := ⟨RX2, "joined", "(II)I"⟩
def RX3 : String := "WordKin$Text"
def TX3 : u_T := fun k => match k with
  | 0 => ("WordKin$Text", "letters", "[I", true)
  | 1 => ("WordKin$Text", "length", "I", false)
  | 2 => ("WordKin$Text", "roots", "[I", true)
  | 3 => ("WordKin$Text", "endings", "[I", true)
  | 4 => ("WordKin$Text", "signs", "[I", true)
  | 5 => ("WordKin$Text", "rootCount", "I", false)
  | 6 => ("WordKin$Text", "endingCount", "I", false)
  | 7 => ("WordKin$Text", "changeCount", "I", false)
  | 8 => ("WordKin$Text", "partCount", "I", false)
  | 9 => ("WordKin$Text", "faultPlace", "I", false)
  | 10 => ("WordKin$Text", "faultPart", "I", false)
  | 11 => ("WordKin$Text", "kind", "I", false)
  | _ => ("WordKin$Text", "got", "I", false)
def tyX3 : Nat → FieldType := fun k => match k with
  | 0 => .array .int
  | 1 => .int
  | 2 => .array .int
  | 3 => .array .int
  | 4 => .array .int
  | 5 => .int
  | 6 => .int
  | 7 => .int
  | 8 => .int
  | 9 => .int
  | 10 => .int
  | 11 => .int
  | _ => .int
abbrev wsX30 : List Cond := u_ws RX3 TX3 13
theorem nmX3 : ∀ a, a < 13 → ∀ b, b < 13 → a ≠ b → (TX3 a).2.1 ≠ (TX3 b).2.1 := by decide +kernel
theorem tyX3_ok : ∀ k, k < 13 → parseFieldDescriptor (TX3 k).2.2.1 = some (tyX3 k) := by decide +kernel
abbrev cX3_init : ByteArray := prog_5_method_1_code
def yX3_init : MethodName := ⟨RX3, "<init>", "()V"⟩
abbrev cX3_append : ByteArray := prog_5_method_2_code
def yX3_append : MethodName := ⟨RX3, "append", "(I)Z"⟩
abbrev cX3_read : ByteArray := prog_5_method_3_code
def yX3_read : MethodName := ⟨RX3, "read", "()V"⟩
abbrev cX3_beginReading : ByteArray := prog_5_method_4_code
def yX3_beginReading : MethodName := ⟨RX3, "beginReading", "()V"⟩
abbrev cX3_isOfLetters : ByteArray := prog_5_method_5_code
def yX3_isOfLetters : MethodName := ⟨RX3, "isOfLetters", "()Z"⟩
abbrev cX3_needsMore : ByteArray := prog_5_method_6_code
def yX3_needsMore : MethodName := ⟨RX3, "needsMore", "()Z"⟩
abbrev cX3_beginPart : ByteArray := prog_5_method_7_code
def yX3_beginPart : MethodName := ⟨RX3, "beginPart", "(I)Z"⟩
abbrev cX3_goOnWith : ByteArray := prog_5_method_8_code
def yX3_goOnWith : MethodName := ⟨RX3, "goOnWith", "(I)Z"⟩
abbrev cX3_addLetter : ByteArray := prog_5_method_9_code
def yX3_addLetter : MethodName := ⟨RX3, "addLetter", "([IIII)Z"⟩
abbrev cX3_addSign : ByteArray := prog_5_method_10_code
def yX3_addSign : MethodName := ⟨RX3, "addSign", "(I)Z"⟩
abbrev cX3_isLetter : ByteArray := prog_5_method_11_code
def yX3_isLetter : MethodName := ⟨RX3, "isLetter", "(I)Z"⟩
abbrev cX3_signMeant : ByteArray := prog_5_method_12_code
def yX3_signMeant : MethodName := ⟨RX3, "signMeant", "(I)I"⟩
def RX4 : String := "WordKin$Ways"
def TX4 : u_T := fun k => match k with
  | 0 => ("WordKin$Ways", "stock", "LWordKin$Stock;", true)
  | 1 => ("WordKin$Ways", "signs", "[I", true)
  | 2 => ("WordKin$Ways", "line", "[I", true)
  | 3 => ("WordKin$Ways", "forms", "[I", true)
  | 4 => ("WordKin$Ways", "unlike", "[I", true)
  | _ => ("WordKin$Ways", "changeCount", "I", false)
def tyX4 : Nat → FieldType := fun k => match k with
  | 0 => .object "WordKin$Stock"
  | 1 => .array .int
  | 2 => .array .int
  | 3 => .array .int
  | 4 => .array .int
  | _ => .int
abbrev wsX40 : List Cond := u_ws RX4 TX4 6
theorem nmX4 : ∀ a, a < 6 → ∀ b, b < 6 → a ≠ b → (TX4 a).2.1 ≠ (TX4 b).2.1 := by decide +kernel
theorem tyX4_ok : ∀ k, k < 6 → parseFieldDescriptor (TX4 k).2.2.1 = some (tyX4 k) := by decide +kernel
abbrev cX4_init : ByteArray := prog_6_method_1_code
def yX4_init : MethodName := ⟨RX4, "<init>", "(LWordKin$Stock;)V"⟩
abbrev cX4_beginWith : ByteArray := prog_6_method_2_code
def yX4_beginWith : MethodName := ⟨RX4, "beginWith", "(LWordKin$Text;)V"⟩
abbrev cX4_takeFrom : ByteArray := prog_6_method_3_code
def yX4_takeFrom : MethodName := ⟨RX4, "takeFrom", "(LWordKin$Ways;)V"⟩
abbrev cX4_hasChange : ByteArray := prog_6_method_4_code
def yX4_hasChange : MethodName := ⟨RX4, "hasChange", "(I)Z"⟩
abbrev cX4_allChanges : ByteArray := prog_6_method_5_code
def yX4_allChanges : MethodName := ⟨RX4, "allChanges", "()I"⟩
abbrev cX4_signOf : ByteArray := prog_6_method_6_code
def yX4_signOf : MethodName := ⟨RX4, "signOf", "(II)I"⟩
abbrev cX4_putSign : ByteArray := prog_6_method_7_code
def yX4_putSign : MethodName := ⟨RX4, "putSign", "(III)V"⟩
abbrev cX4_formOf : ByteArray := prog_6_method_8_code
def yX4_formOf : MethodName := ⟨RX4, "formOf", "(II)I"⟩
abbrev cX4_putForm : ByteArray := prog_6_method_9_code
def yX4_putForm : MethodName := ⟨RX4, "putForm", "(III)V"⟩
abbrev cX4_formCount : ByteArray := prog_6_method_10_code
def yX4_formCount : MethodName := ⟨RX4, "formCount", "()I"⟩
abbrev cX4_orderByNumber : ByteArray := prog_6_method_11_code
def yX4_orderByNumber : MethodName := ⟨RX4, "orderByNumber", "()V"⟩
abbrev cX4_exchange : ByteArray := prog_6_method_12_code
def yX4_exchange : MethodName := ⟨RX4, "exchange", "(II)V"⟩
abbrev cX4_goToNextOrder : ByteArray := prog_6_method_13_code
def yX4_goToNextOrder : MethodName := ⟨RX4, "goToNextOrder", "()Z"⟩
abbrev cX4_orderFigures : ByteArray := prog_6_method_14_code
def yX4_orderFigures : MethodName := ⟨RX4, "orderFigures", "()I"⟩
abbrev cX4_goOver : ByteArray := prog_6_method_15_code
def yX4_goOver : MethodName := ⟨RX4, "goOver", "(II)I"⟩
abbrev cX4_walk : ByteArray := prog_6_method_16_code
def yX4_walk : MethodName := ⟨RX4, "walk", "(II)I"⟩
abbrev cX4_walkWith : ByteArray := prog_6_method_17_code
def yX4_walkWith : MethodName := ⟨RX4, "walkWith", "(II)I"⟩
abbrev cX4_makeOf : ByteArray := prog_6_method_18_code
def yX4_makeOf : MethodName := ⟨RX4, "makeOf", "(II)I"⟩
abbrev cX4_unlikeWords : ByteArray := prog_6_method_19_code
def yX4_unlikeWords : MethodName := ⟨RX4, "unlikeWords", "(I)I"⟩
abbrev cX4_isAmongUnlike : ByteArray := prog_6_method_20_code
def yX4_isAmongUnlike : MethodName := ⟨RX4, "isAmongUnlike", "(II)Z"⟩
abbrev cX4_activeChanges : ByteArray := prog_6_method_21_code
def yX4_activeChanges : MethodName := ⟨RX4, "activeChanges", "()I"⟩
abbrev cX4_activeOver : ByteArray := prog_6_method_22_code
def yX4_activeOver : MethodName := ⟨RX4, "activeOver", "(I)I"⟩
abbrev cX4_exceptions : ByteArray := prog_6_method_23_code
def yX4_exceptions : MethodName := ⟨RX4, "exceptions", "()I"⟩
abbrev cX4_doCross : ByteArray := prog_6_method_24_code
def yX4_doCross : MethodName := ⟨RX4, "doCross", "(II)Z"⟩
def RX5 : String := "WordKin$Words"
def TX5 : u_T := fun k => match k with
  | _ => ("", "", "", false)
def tyX5 : Nat → FieldType := fun k => match k with
  | _ => .int
abbrev wsX50 : List Cond := u_ws RX5 TX5 0
theorem nmX5 : ∀ a, a < 0 → ∀ b, b < 0 → a ≠ b → (TX5 a).2.1 ≠ (TX5 b).2.1 := by decide +kernel
theorem tyX5_ok : ∀ k, k < 0 → parseFieldDescriptor (TX5 k).2.2.1 = some (tyX5 k) := by decide +kernel
abbrev cX5_isWord : ByteArray := prog_7_method_2_code
def yX5_isWord : MethodName := ⟨RX5, "isWord", "(I)Z"⟩
abbrev cX5_lengthOf : ByteArray := prog_7_method_3_code
def yX5_lengthOf : MethodName := ⟨RX5, "lengthOf", "(I)I"⟩
abbrev cX5_letterAt : ByteArray := prog_7_method_4_code
def yX5_letterAt : MethodName := ⟨RX5, "letterAt", "(II)I"⟩
abbrev cX5_join : ByteArray := prog_7_method_5_code
def yX5_join : MethodName := ⟨RX5, "join", "(II)I"⟩
abbrev cX5_fits : ByteArray := prog_7_method_6_code
def yX5_fits : MethodName := ⟨RX5, "fits", "(II)Z"⟩
def RX6 : String := "WordKin"
def TX6 : u_T := fun k => match k with
  | 0 => ("WordKin", "text", "LWordKin$Text;", true)
  | 1 => ("WordKin", "stock", "LWordKin$Stock;", true)
  | 2 => ("WordKin", "ways", "LWordKin$Ways;", true)
  | 3 => ("WordKin", "trial", "LWordKin$Ways;", true)
  | 4 => ("WordKin", "kept", "[LWordKin$Ways;", true)
  | 5 => ("WordKin", "isKept", "[Z", true)
  | 6 => ("WordKin", "doings", "LWordKin$Doings;", true)
  | 7 => ("WordKin", "sightings", "LWordKin$Sightings;", true)
  | _ => ("WordKin", "seedNow", "J", false)
def tyX6 : Nat → FieldType := fun k => match k with
  | 0 => .object "WordKin$Text"
  | 1 => .object "WordKin$Stock"
  | 2 => .object "WordKin$Ways"
  | 3 => .object "WordKin$Ways"
  | 4 => .array (.object "WordKin$Ways")
  | 5 => .array .boolean
  | 6 => .object "WordKin$Doings"
  | 7 => .object "WordKin$Sightings"
  | _ => .long
abbrev wsX60 : List Cond := u_ws RX6 TX6 9
theorem nmX6 : ∀ a, a < 9 → ∀ b, b < 9 → a ≠ b → (TX6 a).2.1 ≠ (TX6 b).2.1 := by decide +kernel
theorem tyX6_ok : ∀ k, k < 9 → parseFieldDescriptor (TX6 k).2.2.1 = some (tyX6 k) := by decide +kernel
abbrev cX6_init : ByteArray := prog_1_method_1_code
def yX6_init : MethodName := ⟨RX6, "<init>", "()V"⟩
abbrev cX6_write : ByteArray := prog_1_method_2_code
def yX6_write : MethodName := ⟨RX6, "write", "(I)I"⟩
abbrev cX6_wipe : ByteArray := prog_1_method_3_code
def yX6_wipe : MethodName := ⟨RX6, "wipe", "()I"⟩
abbrev cX6_fault : ByteArray := prog_1_method_4_code
def yX6_fault : MethodName := ⟨RX6, "fault", "(I)I"⟩
abbrev cX6_list : ByteArray := prog_1_method_5_code
def yX6_list : MethodName := ⟨RX6, "list", "()I"⟩
abbrev cX6_about : ByteArray := prog_1_method_6_code
def yX6_about : MethodName := ⟨RX6, "about", "(I)I"⟩
abbrev cX6_part : ByteArray := prog_1_method_7_code
def yX6_part : MethodName := ⟨RX6, "part", "(II)I"⟩
abbrev cX6_sign : ByteArray := prog_1_method_8_code
def yX6_sign : MethodName := ⟨RX6, "sign", "(II)I"⟩
abbrev cX6_order : ByteArray := prog_1_method_9_code
def yX6_order : MethodName := ⟨RX6, "order", "(I)I"⟩
abbrev cX6_made : ByteArray := prog_1_method_10_code
def yX6_made : MethodName := ⟨RX6, "made", "(II)I"⟩
abbrev cX6_step : ByteArray := prog_1_method_11_code
def yX6_step : MethodName := ⟨RX6, "step", "(III)I"⟩
abbrev cX6_apart : ByteArray := prog_1_method_12_code
def yX6_apart : MethodName := ⟨RX6, "apart", "(II)I"⟩
abbrev cX6_form : ByteArray := prog_1_method_13_code
def yX6_form : MethodName := ⟨RX6, "form", "(II)I"⟩
abbrev cX6_swap : ByteArray := prog_1_method_14_code
def yX6_swap : MethodName := ⟨RX6, "swap", "(II)I"⟩
abbrev cX6_resign : ByteArray := prog_1_method_15_code
def yX6_resign : MethodName := ⟨RX6, "resign", "(III)I"⟩
abbrev cX6_tell : ByteArray := prog_1_method_16_code
def yX6_tell : MethodName := ⟨RX6, "tell", "(III)I"⟩
abbrev cX6_undo : ByteArray := prog_1_method_17_code
def yX6_undo : MethodName := ⟨RX6, "undo", "()I"⟩
abbrev cX6_cross : ByteArray := prog_1_method_18_code
def yX6_cross : MethodName := ⟨RX6, "cross", "(II)I"⟩
abbrev cX6_best : ByteArray := prog_1_method_19_code
def yX6_best : MethodName := ⟨RX6, "best", "(I)I"⟩
abbrev cX6_judge : ByteArray := prog_1_method_20_code
def yX6_judge : MethodName := ⟨RX6, "judge", "(IJ)I"⟩
abbrev cX6_share : ByteArray := prog_1_method_21_code
def yX6_share : MethodName := ⟨RX6, "share", "(IZ)I"⟩
abbrev cX6_see : ByteArray := prog_1_method_22_code
def yX6_see : MethodName := ⟨RX6, "see", "(IIII)I"⟩
abbrev cX6_unsee : ByteArray := prog_1_method_23_code
def yX6_unsee : MethodName := ⟨RX6, "unsee", "()I"⟩
abbrev cX6_which : ByteArray := prog_1_method_24_code
def yX6_which : MethodName := ⟨RX6, "which", "(I)I"⟩
abbrev cX6_fails : ByteArray := prog_1_method_25_code
def yX6_fails : MethodName := ⟨RX6, "fails", "(IIIZ)I"⟩
abbrev cX6_seed : ByteArray := prog_1_method_26_code
def yX6_seed : MethodName := ⟨RX6, "seed", "(J)J"⟩
abbrev cX6_drawn : ByteArray := prog_1_method_27_code
def yX6_drawn : MethodName := ⟨RX6, "drawn", "(I)I"⟩
abbrev cX6_keep : ByteArray := prog_1_method_28_code
def yX6_keep : MethodName := ⟨RX6, "keep", "(I)I"⟩
abbrev cX6_again : ByteArray := prog_1_method_29_code
def yX6_again : MethodName := ⟨RX6, "again", "(I)I"⟩
abbrev cX6_isSlot : ByteArray := prog_1_method_30_code
def yX6_isSlot : MethodName := ⟨RX6, "isSlot", "(I)Z"⟩
abbrev cX6_isSignPlace : ByteArray := prog_1_method_31_code
def yX6_isSignPlace : MethodName := ⟨RX6, "isSignPlace", "(I)Z"⟩
abbrev cX6_allowsSign : ByteArray := prog_1_method_32_code
def yX6_allowsSign : MethodName := ⟨RX6, "allowsSign", "(II)Z"⟩
abbrev cX6_withoutLastFours : ByteArray := prog_1_method_33_code
def yX6_withoutLastFours : MethodName := ⟨RX6, "withoutLastFours", "(JI)J"⟩
abbrev cX6_canBe : ByteArray := prog_1_method_34_code
def yX6_canBe : MethodName := ⟨RX6, "canBe", "(IIII)Z"⟩
abbrev cX6_canSwap : ByteArray := prog_1_method_35_code
def yX6_canSwap : MethodName := ⟨RX6, "canSwap", "(II)Z"⟩
abbrev cX6_canSign : ByteArray := prog_1_method_36_code
def yX6_canSign : MethodName := ⟨RX6, "canSign", "(III)Z"⟩
abbrev cX6_rootDrawnFrom : ByteArray := prog_1_method_37_code
def yX6_rootDrawnFrom : MethodName := ⟨RX6, "rootDrawnFrom", "(I)I"⟩
abbrev cX6_power : ByteArray := prog_1_method_38_code
def yX6_power : MethodName := ⟨RX6, "power", "(II)I"⟩
abbrev cX6_fraction : ByteArray := prog_1_method_39_code
def yX6_fraction : MethodName := ⟨RX6, "fraction", "(IIZ)I"⟩
abbrev cX6_sharedDivisor : ByteArray := prog_1_method_40_code
def yX6_sharedDivisor : MethodName := ⟨RX6, "sharedDivisor", "(II)I"⟩
def RX7 : String := "WordKinModel"
def TX7 : u_T := fun k => match k with
  | 0 => ("WordKinModel", "text", "[I", true)
  | 1 => ("WordKinModel", "length", "I", false)
  | 2 => ("WordKinModel", "now", "[I", true)
  | 3 => ("WordKinModel", "trial", "[I", true)
  | 4 => ("WordKinModel", "diary", "[I", true)
  | 5 => ("WordKinModel", "doings", "I", false)
  | 6 => ("WordKinModel", "next", "I", false)
  | 7 => ("WordKinModel", "kept", "[I", true)
  | 8 => ("WordKinModel", "isKept", "[Z", true)
  | 9 => ("WordKinModel", "rootWord", "[I", true)
  | 10 => ("WordKinModel", "endWord", "[I", true)
  | 11 => ("WordKinModel", "roots", "I", false)
  | 12 => ("WordKinModel", "endings", "I", false)
  | 13 => ("WordKinModel", "changes", "I", false)
  | 14 => ("WordKinModel", "readRoot", "[I", true)
  | 15 => ("WordKinModel", "readEnd", "[I", true)
  | 16 => ("WordKinModel", "readSign", "[I", true)
  | 17 => ("WordKinModel", "readRoots", "I", false)
  | 18 => ("WordKinModel", "readEnds", "I", false)
  | 19 => ("WordKinModel", "readChanges", "I", false)
  | 20 => ("WordKinModel", "parts", "I", false)
  | 21 => ("WordKinModel", "faultPart", "I", false)
  | 22 => ("WordKinModel", "seenEnding", "[I", true)
  | 23 => ("WordKinModel", "seenAt", "[I", true)
  | 24 => ("WordKinModel", "seenLetter", "[I", true)
  | 25 => ("WordKinModel", "seenWas", "[I", true)
  | 26 => ("WordKinModel", "seen", "I", false)
  | 27 => ("WordKinModel", "seed", "J", false)
  | 28 => ("WordKinModel", "words", "[I", true)
  | _ => ("WordKinModel", "worth", "[I", true)
def tyX7 : Nat → FieldType := fun k => match k with
  | 0 => .array .int
  | 1 => .int
  | 2 => .array .int
  | 3 => .array .int
  | 4 => .array .int
  | 5 => .int
  | 6 => .int
  | 7 => .array .int
  | 8 => .array .boolean
  | 9 => .array .int
  | 10 => .array .int
  | 11 => .int
  | 12 => .int
  | 13 => .int
  | 14 => .array .int
  | 15 => .array .int
  | 16 => .array .int
  | 17 => .int
  | 18 => .int
  | 19 => .int
  | 20 => .int
  | 21 => .int
  | 22 => .array .int
  | 23 => .array .int
  | 24 => .array .int
  | 25 => .array .int
  | 26 => .int
  | 27 => .long
  | 28 => .array .int
  | _ => .array .int
abbrev wsX70 : List Cond := u_ws RX7 TX7 30
theorem nmX7 : ∀ a, a < 30 → ∀ b, b < 30 → a ≠ b → (TX7 a).2.1 ≠ (TX7 b).2.1 := by decide +kernel
theorem tyX7_ok : ∀ k, k < 30 → parseFieldDescriptor (TX7 k).2.2.1 = some (tyX7 k) := by decide +kernel
abbrev cX7_init : ByteArray := prog_9_method_1_code
def yX7_init : MethodName := ⟨RX7, "<init>", "()V"⟩
abbrev cX7_forgetForms : ByteArray := prog_9_method_3_code
def yX7_forgetForms : MethodName := ⟨RX7, "forgetForms", "()V"⟩
abbrev cX7_in : ByteArray := prog_9_method_4_code
def yX7_in : MethodName := ⟨RX7, "in", "(JJJ)Z"⟩
abbrev cX7_has : ByteArray := prog_9_method_5_code
def yX7_has : MethodName := ⟨RX7, "has", "(II)Z"⟩
abbrev cX7_ones : ByteArray := prog_9_method_6_code
def yX7_ones : MethodName := ⟨RX7, "ones", "(I)I"⟩
abbrev cX7_power : ByteArray := prog_9_method_7_code
def yX7_power : MethodName := ⟨RX7, "power", "(II)I"⟩
abbrev cX7_factorial : ByteArray := prog_9_method_8_code
def yX7_factorial : MethodName := ⟨RX7, "factorial", "(I)I"⟩
abbrev cX7_divisor : ByteArray := prog_9_method_9_code
def yX7_divisor : MethodName := ⟨RX7, "divisor", "(II)I"⟩
abbrev cX7_fraction : ByteArray := prog_9_method_10_code
def yX7_fraction : MethodName := ⟨RX7, "fraction", "(IIZ)I"⟩
abbrev cX7_size : ByteArray := prog_9_method_11_code
def yX7_size : MethodName := ⟨RX7, "size", "(I)I"⟩
abbrev cX7_letterAt : ByteArray := prog_9_method_12_code
def yX7_letterAt : MethodName := ⟨RX7, "letterAt", "(II)I"⟩
abbrev cX7_isWord : ByteArray := prog_9_method_13_code
def yX7_isWord : MethodName := ⟨RX7, "isWord", "(I)Z"⟩
abbrev cX7_fits : ByteArray := prog_9_method_14_code
def yX7_fits : MethodName := ⟨RX7, "fits", "(II)Z"⟩
abbrev cX7_changed : ByteArray := prog_9_method_15_code
def yX7_changed : MethodName := ⟨RX7, "changed", "([III)I"⟩
abbrev cX7_behindAll : ByteArray := prog_9_method_16_code
def yX7_behindAll : MethodName := ⟨RX7, "behindAll", "([IIII)I"⟩
abbrev cX7_join : ByteArray := prog_9_method_17_code
def yX7_join : MethodName := ⟨RX7, "join", "(II)I"⟩
abbrev cX7_raw : ByteArray := prog_9_method_18_code
def yX7_raw : MethodName := ⟨RX7, "raw", "(II)I"⟩
abbrev cX7_madeBy : ByteArray := prog_9_method_19_code
def yX7_madeBy : MethodName := ⟨RX7, "madeBy", "([IIII)I"⟩
abbrev cX7_isRoot : ByteArray := prog_9_method_20_code
def yX7_isRoot : MethodName := ⟨RX7, "isRoot", "(I)Z"⟩
abbrev cX7_isEnding : ByteArray := prog_9_method_21_code
def yX7_isEnding : MethodName := ⟨RX7, "isEnding", "(I)Z"⟩
abbrev cX7_isChange : ByteArray := prog_9_method_22_code
def yX7_isChange : MethodName := ⟨RX7, "isChange", "(I)Z"⟩
abbrev cX7_write : ByteArray := prog_9_method_23_code
def yX7_write : MethodName := ⟨RX7, "write", "(I)I"⟩
abbrev cX7_wipe : ByteArray := prog_9_method_24_code
def yX7_wipe : MethodName := ⟨RX7, "wipe", "()I"⟩
abbrev cX7_begun : ByteArray := prog_9_method_25_code
def yX7_begun : MethodName := ⟨RX7, "begun", "(I)I"⟩
abbrev cX7_isLetter : ByteArray := prog_9_method_26_code
def yX7_isLetter : MethodName := ⟨RX7, "isLetter", "(I)Z"⟩
abbrev cX7_signOf : ByteArray := prog_9_method_27_code
def yX7_signOf : MethodName := ⟨RX7, "signOf", "(II)I"⟩
abbrev cX7_mostOf : ByteArray := prog_9_method_28_code
def yX7_mostOf : MethodName := ⟨RX7, "mostOf", "(I)I"⟩
abbrev cX7_mayEnd : ByteArray := prog_9_method_29_code
def yX7_mayEnd : MethodName := ⟨RX7, "mayEnd", "(II)Z"⟩
abbrev cX7_begin : ByteArray := prog_9_method_30_code
def yX7_begin : MethodName := ⟨RX7, "begin", "(I)V"⟩
abbrev cX7_take : ByteArray := prog_9_method_31_code
def yX7_take : MethodName := ⟨RX7, "take", "(III)Z"⟩
abbrev cX7_readText : ByteArray := prog_9_method_32_code
def yX7_readText : MethodName := ⟨RX7, "readText", "()I"⟩
abbrev cX7_fault : ByteArray := prog_9_method_33_code
def yX7_fault : MethodName := ⟨RX7, "fault", "(I)I"⟩
abbrev cX7_list : ByteArray := prog_9_method_34_code
def yX7_list : MethodName := ⟨RX7, "list", "()I"⟩
abbrev cX7_unlike : ByteArray := prog_9_method_35_code
def yX7_unlike : MethodName := ⟨RX7, "unlike", "([II)I"⟩
abbrev cX7_active : ByteArray := prog_9_method_36_code
def yX7_active : MethodName := ⟨RX7, "active", "([I)I"⟩
abbrev cX7_exceptions : ByteArray := prog_9_method_37_code
def yX7_exceptions : MethodName := ⟨RX7, "exceptions", "([I)I"⟩
abbrev cX7_manyForms : ByteArray := prog_9_method_38_code
def yX7_manyForms : MethodName := ⟨RX7, "manyForms", "()I"⟩
abbrev cX7_about : ByteArray := prog_9_method_39_code
def yX7_about : MethodName := ⟨RX7, "about", "(I)I"⟩
abbrev cX7_part : ByteArray := prog_9_method_40_code
def yX7_part : MethodName := ⟨RX7, "part", "(II)I"⟩
abbrev cX7_sign : ByteArray := prog_9_method_41_code
def yX7_sign : MethodName := ⟨RX7, "sign", "(II)I"⟩
abbrev cX7_order : ByteArray := prog_9_method_42_code
def yX7_order : MethodName := ⟨RX7, "order", "(I)I"⟩
abbrev cX7_made : ByteArray := prog_9_method_43_code
def yX7_made : MethodName := ⟨RX7, "made", "(II)I"⟩
abbrev cX7_step : ByteArray := prog_9_method_44_code
def yX7_step : MethodName := ⟨RX7, "step", "(III)I"⟩
abbrev cX7_apart : ByteArray := prog_9_method_45_code
def yX7_apart : MethodName := ⟨RX7, "apart", "(II)I"⟩
abbrev cX7_form : ByteArray := prog_9_method_46_code
def yX7_form : MethodName := ⟨RX7, "form", "(II)I"⟩
abbrev cX7_noteDoing : ByteArray := prog_9_method_47_code
def yX7_noteDoing : MethodName := ⟨RX7, "noteDoing", "()V"⟩
abbrev cX7_swapOn : ByteArray := prog_9_method_48_code
def yX7_swapOn : MethodName := ⟨RX7, "swapOn", "([III)V"⟩
abbrev cX7_isSign : ByteArray := prog_9_method_49_code
def yX7_isSign : MethodName := ⟨RX7, "isSign", "(II)Z"⟩
abbrev cX7_swap : ByteArray := prog_9_method_50_code
def yX7_swap : MethodName := ⟨RX7, "swap", "(II)I"⟩
abbrev cX7_resign : ByteArray := prog_9_method_51_code
def yX7_resign : MethodName := ⟨RX7, "resign", "(III)I"⟩
abbrev cX7_tell : ByteArray := prog_9_method_52_code
def yX7_tell : MethodName := ⟨RX7, "tell", "(III)I"⟩
abbrev cX7_undo : ByteArray := prog_9_method_53_code
def yX7_undo : MethodName := ⟨RX7, "undo", "()I"⟩
abbrev cX7_areCrossing : ByteArray := prog_9_method_54_code
def yX7_areCrossing : MethodName := ⟨RX7, "areCrossing", "([III)Z"⟩
abbrev cX7_cross : ByteArray := prog_9_method_55_code
def yX7_cross : MethodName := ⟨RX7, "cross", "(II)I"⟩
abbrev cX7_changeAt : ByteArray := prog_9_method_56_code
def yX7_changeAt : MethodName := ⟨RX7, "changeAt", "(II)I"⟩
abbrev cX7_isOrder : ByteArray := prog_9_method_57_code
def yX7_isOrder : MethodName := ⟨RX7, "isOrder", "(I)Z"⟩
abbrev cX7_figuresOf : ByteArray := prog_9_method_58_code
def yX7_figuresOf : MethodName := ⟨RX7, "figuresOf", "(I)I"⟩
abbrev cX7_layTrial : ByteArray := prog_9_method_59_code
def yX7_layTrial : MethodName := ⟨RX7, "layTrial", "()V"⟩
abbrev cX7_best : ByteArray := prog_9_method_60_code
def yX7_best : MethodName := ⟨RX7, "best", "(I)I"⟩
abbrev cX7_judged : ByteArray := prog_9_method_61_code
def yX7_judged : MethodName := ⟨RX7, "judged", "(IIII)Z"⟩
abbrev cX7_tenThousands : ByteArray := prog_9_method_62_code
def yX7_tenThousands : MethodName := ⟨RX7, "tenThousands", "(I)J"⟩
abbrev cX7_judge : ByteArray := prog_9_method_63_code
def yX7_judge : MethodName := ⟨RX7, "judge", "(IJ)I"⟩
abbrev cX7_share : ByteArray := prog_9_method_64_code
def yX7_share : MethodName := ⟨RX7, "share", "(IZ)I"⟩
abbrev cX7_see : ByteArray := prog_9_method_65_code
def yX7_see : MethodName := ⟨RX7, "see", "(IIII)I"⟩
abbrev cX7_unsee : ByteArray := prog_9_method_66_code
def yX7_unsee : MethodName := ⟨RX7, "unsee", "()I"⟩
abbrev cX7_agrees : ByteArray := prog_9_method_67_code
def yX7_agrees : MethodName := ⟨RX7, "agrees", "(I)Z"⟩
abbrev cX7_which : ByteArray := prog_9_method_68_code
def yX7_which : MethodName := ⟨RX7, "which", "(I)I"⟩
abbrev cX7_fails : ByteArray := prog_9_method_69_code
def yX7_fails : MethodName := ⟨RX7, "fails", "(IIIZ)I"⟩
abbrev cX7_seed : ByteArray := prog_9_method_70_code
def yX7_seed : MethodName := ⟨RX7, "seed", "(J)J"⟩
abbrev cX7_drawn : ByteArray := prog_9_method_71_code
def yX7_drawn : MethodName := ⟨RX7, "drawn", "(I)I"⟩
abbrev cX7_keep : ByteArray := prog_9_method_72_code
def yX7_keep : MethodName := ⟨RX7, "keep", "(I)I"⟩
abbrev cX7_again : ByteArray := prog_9_method_73_code
def yX7_again : MethodName := ⟨RX7, "again", "(I)I"⟩
def RJ6 : String := "java/lang/Integer"
def TJ6 : u_T := fun k => match k with
  | _ => ("", "", "", false)
def tyJ6 : Nat → FieldType := fun k => match k with
  | _ => .int
abbrev wsJ60 : List Cond := u_ws RJ6 TJ6 0
theorem nmJ6 : ∀ a, a < 0 → ∀ b, b < 0 → a ≠ b → (TJ6 a).2.1 ≠ (TJ6 b).2.1 := by decide +kernel
theorem tyJ6_ok : ∀ k, k < 0 → parseFieldDescriptor (TJ6 k).2.2.1 = some (tyJ6 k) := by decide +kernel
abbrev cJ6_bitCount_0f7a4 : ByteArray := prog_10_method_49_code
def yJ6_bitCount_0f7a4 : MethodName := ⟨RJ6, "bitCount", "(I)I"⟩
def RJ9 : String := "java/lang/Math"
def TJ9 : u_T := fun k => match k with
  | _ => ("", "", "", false)
def tyJ9 : Nat → FieldType := fun k => match k with
  | _ => .int
abbrev wsJ90 : List Cond := u_ws RJ9 TJ9 0
theorem nmJ9 : ∀ a, a < 0 → ∀ b, b < 0 → a ≠ b → (TJ9 a).2.1 ≠ (TJ9 b).2.1 := by decide +kernel
theorem tyJ9_ok : ∀ k, k < 0 → parseFieldDescriptor (TJ9 k).2.2.1 = some (tyJ9 k) := by decide +kernel
abbrev cJ9_abs_0f7a4 : ByteArray := prog_11_method_59_code
def yJ9_abs_0f7a4 : MethodName := ⟨RJ9, "abs", "(I)I"⟩
def RJ10 : String := "java/lang/System"
def TJ10 : u_T := fun k => match k with
  | _ => ("", "", "", false)
def tyJ10 : Nat → FieldType := fun k => match k with
  | _ => .int
abbrev wsJ100 : List Cond := u_ws RJ10 TJ10 0
theorem nmJ10 : ∀ a, a < 0 → ∀ b, b < 0 → a ≠ b → (TJ10 a).2.1 ≠ (TJ10 b).2.1 := by decide +kernel
theorem tyJ10_ok : ∀ k, k < 0 → parseFieldDescriptor (TJ10 k).2.2.1 = some (tyJ10 k) := by decide +kernel
def RL : String := "WordKinLaw"
abbrev cL_law : ByteArray := code
def yL_law : MethodName := ⟨RL, "law", "([I)Z"⟩
end
section
def tT : List Cond := lw_tbl.filter goodWord
theorem tT_in {w : Cond} {i : Nat} (h : lw_tbl[i]? = some w) (g : goodWord w = true) : w ∈ tT := List.mem_filter.mpr ⟨List.mem_of_getElem? h, g⟩
theorem tT_tbl {w : Cond} (h : w ∈ tT) : w ∈ lw_tbl := (List.mem_filter.mp h).1
theorem tT_good {w : Cond} (h : w ∈ tT) : goodWord w = true := (List.mem_filter.mp h).2
theorem m_0 : (.selects RX3 yX3_beginReading yX3_beginReading : Cond) ∈ tT := tT_in (i := 0) (by decide +kernel) (by decide +kernel)
theorem m_1 : (.selects RX3 yX3_needsMore yX3_needsMore : Cond) ∈ tT := tT_in (i := 1) (by decide +kernel) (by decide +kernel)
theorem m_2 : (.selects RX3 yX3_isOfLetters yX3_isOfLetters : Cond) ∈ tT := tT_in (i := 2) (by decide +kernel) (by decide +kernel)
theorem m_3 : (.selects RX3 yX3_goOnWith yX3_goOnWith : Cond) ∈ tT := tT_in (i := 3) (by decide +kernel) (by decide +kernel)
theorem m_4 : (.selects RX3 yX3_addLetter yX3_addLetter : Cond) ∈ tT := tT_in (i := 4) (by decide +kernel) (by decide +kernel)
theorem m_5 : (.selects RX3 yX3_addSign yX3_addSign : Cond) ∈ tT := tT_in (i := 5) (by decide +kernel) (by decide +kernel)
theorem m_6 : (.selects RX3 yX3_beginPart yX3_beginPart : Cond) ∈ tT := tT_in (i := 6) (by decide +kernel) (by decide +kernel)
theorem m_7 : (.selects RX4 yX4_isAmongUnlike yX4_isAmongUnlike : Cond) ∈ tT := tT_in (i := 7) (by decide +kernel) (by decide +kernel)
theorem m_8 : (.selects RX4 yX4_activeOver yX4_activeOver : Cond) ∈ tT := tT_in (i := 8) (by decide +kernel) (by decide +kernel)
theorem m_9 : (.selects RX6 yX6_canBe yX6_canBe : Cond) ∈ tT := tT_in (i := 9) (by decide +kernel) (by decide +kernel)
theorem m_10 : (.selects RX6 yX6_canSwap yX6_canSwap : Cond) ∈ tT := tT_in (i := 10) (by decide +kernel) (by decide +kernel)
theorem m_11 : (.selects RX6 yX6_canSign yX6_canSign : Cond) ∈ tT := tT_in (i := 11) (by decide +kernel) (by decide +kernel)
theorem m_12 : (.selects RX7 yX7_forgetForms yX7_forgetForms : Cond) ∈ tT := tT_in (i := 12) (by decide +kernel) (by decide +kernel)
theorem m_13 : (.selects RX7 yX7_readText yX7_readText : Cond) ∈ tT := tT_in (i := 13) (by decide +kernel) (by decide +kernel)
theorem m_14 : (.selects RX7 yX7_begun yX7_begun : Cond) ∈ tT := tT_in (i := 14) (by decide +kernel) (by decide +kernel)
theorem m_15 : (.selects RX7 yX7_begin yX7_begin : Cond) ∈ tT := tT_in (i := 15) (by decide +kernel) (by decide +kernel)
theorem m_16 : (.selects RX7 yX7_take yX7_take : Cond) ∈ tT := tT_in (i := 16) (by decide +kernel) (by decide +kernel)
theorem m_17 : (.selects RX7 yX7_unlike yX7_unlike : Cond) ∈ tT := tT_in (i := 17) (by decide +kernel) (by decide +kernel)
theorem m_18 : (.selects RX7 yX7_madeBy yX7_madeBy : Cond) ∈ tT := tT_in (i := 18) (by decide +kernel) (by decide +kernel)
theorem m_19 : (.selects RX7 yX7_raw yX7_raw : Cond) ∈ tT := tT_in (i := 19) (by decide +kernel) (by decide +kernel)
theorem m_20 : (.selects RX7 yX7_active yX7_active : Cond) ∈ tT := tT_in (i := 20) (by decide +kernel) (by decide +kernel)
theorem m_21 : (.selects RX7 yX7_exceptions yX7_exceptions : Cond) ∈ tT := tT_in (i := 21) (by decide +kernel) (by decide +kernel)
theorem m_22 : (.selects RX7 yX7_manyForms yX7_manyForms : Cond) ∈ tT := tT_in (i := 22) (by decide +kernel) (by decide +kernel)
theorem m_23 : (.selects RX7 yX7_isRoot yX7_isRoot : Cond) ∈ tT := tT_in (i := 23) (by decide +kernel) (by decide +kernel)
theorem m_24 : (.selects RX7 yX7_isEnding yX7_isEnding : Cond) ∈ tT := tT_in (i := 24) (by decide +kernel) (by decide +kernel)
theorem m_25 : (.selects RX7 yX7_isChange yX7_isChange : Cond) ∈ tT := tT_in (i := 25) (by decide +kernel) (by decide +kernel)
theorem m_26 : (.selects RX7 yX7_noteDoing yX7_noteDoing : Cond) ∈ tT := tT_in (i := 26) (by decide +kernel) (by decide +kernel)
theorem m_27 : (.selects RX7 yX7_areCrossing yX7_areCrossing : Cond) ∈ tT := tT_in (i := 27) (by decide +kernel) (by decide +kernel)
theorem m_28 : (.selects RX7 yX7_layTrial yX7_layTrial : Cond) ∈ tT := tT_in (i := 28) (by decide +kernel) (by decide +kernel)
theorem m_29 : (.selects RX7 yX7_isOrder yX7_isOrder : Cond) ∈ tT := tT_in (i := 29) (by decide +kernel) (by decide +kernel)
theorem m_30 : (.selects RX7 yX7_changeAt yX7_changeAt : Cond) ∈ tT := tT_in (i := 30) (by decide +kernel) (by decide +kernel)
theorem m_31 : (.selects RX7 yX7_figuresOf yX7_figuresOf : Cond) ∈ tT := tT_in (i := 31) (by decide +kernel) (by decide +kernel)
theorem m_32 : (.selects RX7 yX7_judged yX7_judged : Cond) ∈ tT := tT_in (i := 32) (by decide +kernel) (by decide +kernel)
theorem m_33 : (.selects RX7 yX7_agrees yX7_agrees : Cond) ∈ tT := tT_in (i := 33) (by decide +kernel) (by decide +kernel)
theorem m_34 : (.initialized RL : Cond) ∈ tT := tT_in (i := 34) (by decide +kernel) (by decide +kernel)
theorem m_35 : (.initialized RX6 : Cond) ∈ tT := tT_in (i := 35) (by decide +kernel) (by decide +kernel)
theorem m_36 : (.initialized RX3 : Cond) ∈ tT := tT_in (i := 36) (by decide +kernel) (by decide +kernel)
theorem m_37 : (.initialized RX2 : Cond) ∈ tT := tT_in (i := 37) (by decide +kernel) (by decide +kernel)
theorem m_38 : (.initialized RX4 : Cond) ∈ tT := tT_in (i := 38) (by decide +kernel) (by decide +kernel)
theorem m_39 : (.initialized RX0 : Cond) ∈ tT := tT_in (i := 39) (by decide +kernel) (by decide +kernel)
theorem m_40 : (.initialized RX1 : Cond) ∈ tT := tT_in (i := 40) (by decide +kernel) (by decide +kernel)
theorem m_41 : (.initialized RX7 : Cond) ∈ tT := tT_in (i := 41) (by decide +kernel) (by decide +kernel)
theorem m_42 : (.initialized RJ10 : Cond) ∈ tT := tT_in (i := 42) (by decide +kernel) (by decide +kernel)
theorem m_43 : (.initialized RX5 : Cond) ∈ tT := tT_in (i := 43) (by decide +kernel) (by decide +kernel)
theorem m_44 : (.initialized RJ6 : Cond) ∈ tT := tT_in (i := 44) (by decide +kernel) (by decide +kernel)
theorem m_45 : (.initialized RJ9 : Cond) ∈ tT := tT_in (i := 45) (by decide +kernel) (by decide +kernel)
theorem m_46 : (.classLink RL 7 RX6 : Cond) ∈ tT := tT_in (i := 46) (by decide +kernel) (by decide +kernel)
theorem m_47 : (.instantiable RX6 9 : Cond) ∈ tT := tT_in (i := 47) (by decide +kernel) (by decide +kernel)
theorem m_48 : (.methodLink RL 9 yX6_init : Cond) ∈ tT := tT_in (i := 48) (by decide +kernel) (by decide +kernel)
theorem m_49 : (.instanceMethod yX6_init : Cond) ∈ tT := tT_in (i := 49) (by decide +kernel) (by decide +kernel)
theorem m_50 : (.code yX6_init cX6_init 2 none : Cond) ∈ tT := tT_in (i := 50) (by decide +kernel) (by decide +kernel)
theorem m_51 : (.methodLink RX6 1 objectInit : Cond) ∈ tT := tT_in (i := 51) (by decide +kernel) (by decide +kernel)
theorem m_52 : (.instanceMethod objectInit : Cond) ∈ tT := tT_in (i := 52) (by decide +kernel) (by decide +kernel)
theorem m_53 : (.code objectInit ⟨#[0xb1]⟩ 1 none : Cond) ∈ tT := tT_in (i := 53) (by decide +kernel) (by decide +kernel)
theorem m_54 : (.classLink RX6 7 RX3 : Cond) ∈ tT := tT_in (i := 54) (by decide +kernel) (by decide +kernel)
theorem m_55 : (.instantiable RX3 13 : Cond) ∈ tT := tT_in (i := 55) (by decide +kernel) (by decide +kernel)
theorem m_57 : (.instanceMethod yX3_init : Cond) ∈ tT := tT_in (i := 57) (by decide +kernel) (by decide +kernel)
theorem m_58 : (.code yX3_init cX3_init 1 none : Cond) ∈ tT := tT_in (i := 58) (by decide +kernel) (by decide +kernel)
theorem m_59 : (.methodLink RX3 3 objectInit : Cond) ∈ tT := tT_in (i := 59) (by decide +kernel) (by decide +kernel)
theorem m_60 : (.fieldLink RX3 9 "WordKin$Text" "letters" "[I" : Cond) ∈ tT := tT_in (i := 60) (by decide +kernel) (by decide +kernel)
theorem m_61 : (.fieldLink RX3 24 "WordKin$Text" "length" "I" : Cond) ∈ tT := tT_in (i := 61) (by decide +kernel) (by decide +kernel)
theorem m_63 : (.fieldLink RX3 15 "WordKin$Text" "roots" "[I" : Cond) ∈ tT := tT_in (i := 63) (by decide +kernel) (by decide +kernel)
theorem m_65 : (.fieldLink RX3 18 "WordKin$Text" "endings" "[I" : Cond) ∈ tT := tT_in (i := 65) (by decide +kernel) (by decide +kernel)
theorem m_67 : (.fieldLink RX3 21 "WordKin$Text" "signs" "[I" : Cond) ∈ tT := tT_in (i := 67) (by decide +kernel) (by decide +kernel)
theorem m_70 : (.fieldLink RX3 57 "WordKin$Text" "rootCount" "I" : Cond) ∈ tT := tT_in (i := 70) (by decide +kernel) (by decide +kernel)
theorem m_72 : (.fieldLink RX3 60 "WordKin$Text" "endingCount" "I" : Cond) ∈ tT := tT_in (i := 72) (by decide +kernel) (by decide +kernel)
theorem m_74 : (.fieldLink RX3 63 "WordKin$Text" "changeCount" "I" : Cond) ∈ tT := tT_in (i := 74) (by decide +kernel) (by decide +kernel)
theorem m_75 : (.fieldLink RX3 42 "WordKin$Text" "partCount" "I" : Cond) ∈ tT := tT_in (i := 75) (by decide +kernel) (by decide +kernel)
theorem m_77 : (.fieldLink RX3 51 "WordKin$Text" "faultPlace" "I" : Cond) ∈ tT := tT_in (i := 77) (by decide +kernel) (by decide +kernel)
theorem m_79 : (.fieldLink RX3 54 "WordKin$Text" "faultPart" "I" : Cond) ∈ tT := tT_in (i := 79) (by decide +kernel) (by decide +kernel)
theorem m_81 : (.fieldLink RX3 66 "WordKin$Text" "kind" "I" : Cond) ∈ tT := tT_in (i := 81) (by decide +kernel) (by decide +kernel)
theorem m_82 : (.fieldLink RX3 69 "WordKin$Text" "got" "I" : Cond) ∈ tT := tT_in (i := 82) (by decide +kernel) (by decide +kernel)
theorem m_111 : (.classLink RX6 16 RX2 : Cond) ∈ tT := tT_in (i := 111) (by decide +kernel) (by decide +kernel)
theorem m_112 : (.instantiable RX2 4 : Cond) ∈ tT := tT_in (i := 112) (by decide +kernel) (by decide +kernel)
theorem m_114 : (.instanceMethod yX2_init : Cond) ∈ tT := tT_in (i := 114) (by decide +kernel) (by decide +kernel)
theorem m_115 : (.code yX2_init cX2_init 1 none : Cond) ∈ tT := tT_in (i := 115) (by decide +kernel) (by decide +kernel)
theorem m_116 : (.methodLink RX2 3 objectInit : Cond) ∈ tT := tT_in (i := 116) (by decide +kernel) (by decide +kernel)
theorem m_117 : (.fieldLink RX2 9 "WordKin$Stock" "roots" "[I" : Cond) ∈ tT := tT_in (i := 117) (by decide +kernel) (by decide +kernel)
theorem m_119 : (.fieldLink RX2 15 "WordKin$Stock" "endings" "[I" : Cond) ∈ tT := tT_in (i := 119) (by decide +kernel) (by decide +kernel)
theorem m_122 : (.fieldLink RX2 32 "WordKin$Stock" "rootCount" "I" : Cond) ∈ tT := tT_in (i := 122) (by decide +kernel) (by decide +kernel)
theorem m_125 : (.fieldLink RX2 36 "WordKin$Stock" "endingCount" "I" : Cond) ∈ tT := tT_in (i := 125) (by decide +kernel) (by decide +kernel)
theorem m_137 : (.classLink RX6 23 RX4 : Cond) ∈ tT := tT_in (i := 137) (by decide +kernel) (by decide +kernel)
theorem m_138 : (.instantiable RX4 6 : Cond) ∈ tT := tT_in (i := 138) (by decide +kernel) (by decide +kernel)
theorem m_139 : (.methodLink RX6 25 yX4_init : Cond) ∈ tT := tT_in (i := 139) (by decide +kernel) (by decide +kernel)
theorem m_140 : (.instanceMethod yX4_init : Cond) ∈ tT := tT_in (i := 140) (by decide +kernel) (by decide +kernel)
theorem m_141 : (.code yX4_init cX4_init 3 none : Cond) ∈ tT := tT_in (i := 141) (by decide +kernel) (by decide +kernel)
theorem m_142 : (.methodLink RX4 3 objectInit : Cond) ∈ tT := tT_in (i := 142) (by decide +kernel) (by decide +kernel)
theorem m_143 : (.fieldLink RX4 24 "WordKin$Ways" "stock" "LWordKin$Stock;" : Cond) ∈ tT := tT_in (i := 143) (by decide +kernel) (by decide +kernel)
theorem m_144 : (.fieldLink RX4 9 "WordKin$Ways" "signs" "[I" : Cond) ∈ tT := tT_in (i := 144) (by decide +kernel) (by decide +kernel)
theorem m_145 : (.fieldLink RX4 15 "WordKin$Ways" "line" "[I" : Cond) ∈ tT := tT_in (i := 145) (by decide +kernel) (by decide +kernel)
theorem m_147 : (.fieldLink RX4 18 "WordKin$Ways" "forms" "[I" : Cond) ∈ tT := tT_in (i := 147) (by decide +kernel) (by decide +kernel)
theorem m_148 : (.fieldLink RX4 21 "WordKin$Ways" "unlike" "[I" : Cond) ∈ tT := tT_in (i := 148) (by decide +kernel) (by decide +kernel)
theorem m_149 : (.fieldLink RX4 41 "WordKin$Ways" "changeCount" "I" : Cond) ∈ tT := tT_in (i := 149) (by decide +kernel) (by decide +kernel)
theorem m_166 : (.classLink RX6 43 RX0 : Cond) ∈ tT := tT_in (i := 166) (by decide +kernel) (by decide +kernel)
theorem m_167 : (.instantiable RX0 6 : Cond) ∈ tT := tT_in (i := 167) (by decide +kernel) (by decide +kernel)
theorem m_169 : (.instanceMethod yX0_init : Cond) ∈ tT := tT_in (i := 169) (by decide +kernel) (by decide +kernel)
theorem m_170 : (.code yX0_init cX0_init 1 none : Cond) ∈ tT := tT_in (i := 170) (by decide +kernel) (by decide +kernel)
theorem m_171 : (.methodLink RX0 3 objectInit : Cond) ∈ tT := tT_in (i := 171) (by decide +kernel) (by decide +kernel)
theorem m_172 : (.fieldLink RX0 9 "WordKin$Doings" "kinds" "[I" : Cond) ∈ tT := tT_in (i := 172) (by decide +kernel) (by decide +kernel)
theorem m_173 : (.fieldLink RX0 15 "WordKin$Doings" "ones" "[I" : Cond) ∈ tT := tT_in (i := 173) (by decide +kernel) (by decide +kernel)
theorem m_174 : (.fieldLink RX0 18 "WordKin$Doings" "others" "[I" : Cond) ∈ tT := tT_in (i := 174) (by decide +kernel) (by decide +kernel)
theorem m_175 : (.fieldLink RX0 21 "WordKin$Doings" "befores" "[I" : Cond) ∈ tT := tT_in (i := 175) (by decide +kernel) (by decide +kernel)
theorem m_176 : (.fieldLink RX0 28 "WordKin$Doings" "first" "I" : Cond) ∈ tT := tT_in (i := 176) (by decide +kernel) (by decide +kernel)
theorem m_177 : (.fieldLink RX0 24 "WordKin$Doings" "count" "I" : Cond) ∈ tT := tT_in (i := 177) (by decide +kernel) (by decide +kernel)
theorem m_193 : (.classLink RX6 50 RX1 : Cond) ∈ tT := tT_in (i := 193) (by decide +kernel) (by decide +kernel)
theorem m_194 : (.instantiable RX1 5 : Cond) ∈ tT := tT_in (i := 194) (by decide +kernel) (by decide +kernel)
theorem m_196 : (.instanceMethod yX1_init : Cond) ∈ tT := tT_in (i := 196) (by decide +kernel) (by decide +kernel)
theorem m_197 : (.code yX1_init cX1_init 1 none : Cond) ∈ tT := tT_in (i := 197) (by decide +kernel) (by decide +kernel)
theorem m_198 : (.methodLink RX1 3 objectInit : Cond) ∈ tT := tT_in (i := 198) (by decide +kernel) (by decide +kernel)
theorem m_199 : (.fieldLink RX1 9 "WordKin$Sightings" "endings" "[I" : Cond) ∈ tT := tT_in (i := 199) (by decide +kernel) (by decide +kernel)
theorem m_200 : (.fieldLink RX1 15 "WordKin$Sightings" "places" "[I" : Cond) ∈ tT := tT_in (i := 200) (by decide +kernel) (by decide +kernel)
theorem m_201 : (.fieldLink RX1 18 "WordKin$Sightings" "letters" "[I" : Cond) ∈ tT := tT_in (i := 201) (by decide +kernel) (by decide +kernel)
theorem m_202 : (.fieldLink RX1 21 "WordKin$Sightings" "was" "[Z" : Cond) ∈ tT := tT_in (i := 202) (by decide +kernel) (by decide +kernel)
theorem m_203 : (.fieldLink RX1 25 "WordKin$Sightings" "count" "I" : Cond) ∈ tT := tT_in (i := 203) (by decide +kernel) (by decide +kernel)
theorem m_216 : (.fieldLink RX6 10 "WordKin" "text" "LWordKin$Text;" : Cond) ∈ tT := tT_in (i := 216) (by decide +kernel) (by decide +kernel)
theorem m_217 : (.fieldLink RX6 19 "WordKin" "stock" "LWordKin$Stock;" : Cond) ∈ tT := tT_in (i := 217) (by decide +kernel) (by decide +kernel)
theorem m_218 : (.fieldLink RX6 28 "WordKin" "ways" "LWordKin$Ways;" : Cond) ∈ tT := tT_in (i := 218) (by decide +kernel) (by decide +kernel)
theorem m_219 : (.fieldLink RX6 32 "WordKin" "trial" "LWordKin$Ways;" : Cond) ∈ tT := tT_in (i := 219) (by decide +kernel) (by decide +kernel)
theorem m_220 : (.fieldLink RX6 35 "WordKin" "kept" "[LWordKin$Ways;" : Cond) ∈ tT := tT_in (i := 220) (by decide +kernel) (by decide +kernel)
theorem m_221 : (.fieldLink RX6 39 "WordKin" "isKept" "[Z" : Cond) ∈ tT := tT_in (i := 221) (by decide +kernel) (by decide +kernel)
theorem m_222 : (.fieldLink RX6 46 "WordKin" "doings" "LWordKin$Doings;" : Cond) ∈ tT := tT_in (i := 222) (by decide +kernel) (by decide +kernel)
theorem m_223 : (.fieldLink RX6 53 "WordKin" "sightings" "LWordKin$Sightings;" : Cond) ∈ tT := tT_in (i := 223) (by decide +kernel) (by decide +kernel)
theorem m_224 : (.fieldLink RX6 57 "WordKin" "seedNow" "J" : Cond) ∈ tT := tT_in (i := 224) (by decide +kernel) (by decide +kernel)
theorem m_244 : (.methodLink RL 13 yX6_write : Cond) ∈ tT := tT_in (i := 244) (by decide +kernel) (by decide +kernel)
theorem m_245 : (.instanceMethod yX6_write : Cond) ∈ tT := tT_in (i := 245) (by decide +kernel) (by decide +kernel)
theorem m_246 : (.selects RX6 yX6_write yX6_write : Cond) ∈ tT := tT_in (i := 246) (by decide +kernel) (by decide +kernel)
theorem m_247 : (.code yX6_write cX6_write 2 (some .int) : Cond) ∈ tT := tT_in (i := 247) (by decide +kernel) (by decide +kernel)
theorem m_248 : (.methodLink RX6 61 yX3_append : Cond) ∈ tT := tT_in (i := 248) (by decide +kernel) (by decide +kernel)
theorem m_249 : (.instanceMethod yX3_append : Cond) ∈ tT := tT_in (i := 249) (by decide +kernel) (by decide +kernel)
theorem m_250 : (.selects RX3 yX3_append yX3_append : Cond) ∈ tT := tT_in (i := 250) (by decide +kernel) (by decide +kernel)
theorem m_251 : (.code yX3_append cX3_append 2 (some .boolean) : Cond) ∈ tT := tT_in (i := 251) (by decide +kernel) (by decide +kernel)
theorem m_252 : (.methodLink RL 18 yX6_wipe : Cond) ∈ tT := tT_in (i := 252) (by decide +kernel) (by decide +kernel)
theorem m_253 : (.instanceMethod yX6_wipe : Cond) ∈ tT := tT_in (i := 253) (by decide +kernel) (by decide +kernel)
theorem m_254 : (.selects RX6 yX6_wipe yX6_wipe : Cond) ∈ tT := tT_in (i := 254) (by decide +kernel) (by decide +kernel)
theorem m_255 : (.code yX6_wipe cX6_wipe 2 (some .int) : Cond) ∈ tT := tT_in (i := 255) (by decide +kernel) (by decide +kernel)
theorem m_256 : (.methodLink RL 23 yX6_fault : Cond) ∈ tT := tT_in (i := 256) (by decide +kernel) (by decide +kernel)
theorem m_257 : (.instanceMethod yX6_fault : Cond) ∈ tT := tT_in (i := 257) (by decide +kernel) (by decide +kernel)
theorem m_258 : (.selects RX6 yX6_fault yX6_fault : Cond) ∈ tT := tT_in (i := 258) (by decide +kernel) (by decide +kernel)
theorem m_259 : (.code yX6_fault cX6_fault 2 (some .int) : Cond) ∈ tT := tT_in (i := 259) (by decide +kernel) (by decide +kernel)
theorem m_260 : (.methodLink RX6 69 yX3_read : Cond) ∈ tT := tT_in (i := 260) (by decide +kernel) (by decide +kernel)
theorem m_261 : (.instanceMethod yX3_read : Cond) ∈ tT := tT_in (i := 261) (by decide +kernel) (by decide +kernel)
theorem m_262 : (.selects RX3 yX3_read yX3_read : Cond) ∈ tT := tT_in (i := 262) (by decide +kernel) (by decide +kernel)
theorem m_263 : (.code yX3_read cX3_read 5 none : Cond) ∈ tT := tT_in (i := 263) (by decide +kernel) (by decide +kernel)
theorem m_264 : (.methodLink RX3 28 yX3_beginReading : Cond) ∈ tT := tT_in (i := 264) (by decide +kernel) (by decide +kernel)
theorem m_266 : (.instanceMethod yX3_beginReading : Cond) ∈ tT := tT_in (i := 266) (by decide +kernel) (by decide +kernel)
theorem m_267 : (.code yX3_beginReading cX3_beginReading 1 none : Cond) ∈ tT := tT_in (i := 267) (by decide +kernel) (by decide +kernel)
theorem m_268 : (.methodLink RX3 31 yX3_needsMore : Cond) ∈ tT := tT_in (i := 268) (by decide +kernel) (by decide +kernel)
theorem m_270 : (.instanceMethod yX3_needsMore : Cond) ∈ tT := tT_in (i := 270) (by decide +kernel) (by decide +kernel)
theorem m_271 : (.code yX3_needsMore cX3_needsMore 1 (some .boolean) : Cond) ∈ tT := tT_in (i := 271) (by decide +kernel) (by decide +kernel)
theorem m_272 : (.methodLink RX3 35 yX3_isOfLetters : Cond) ∈ tT := tT_in (i := 272) (by decide +kernel) (by decide +kernel)
theorem m_274 : (.instanceMethod yX3_isOfLetters : Cond) ∈ tT := tT_in (i := 274) (by decide +kernel) (by decide +kernel)
theorem m_275 : (.code yX3_isOfLetters cX3_isOfLetters 1 (some .boolean) : Cond) ∈ tT := tT_in (i := 275) (by decide +kernel) (by decide +kernel)
theorem m_276 : (.methodLink RX3 38 yX3_isLetter : Cond) ∈ tT := tT_in (i := 276) (by decide +kernel) (by decide +kernel)
theorem m_277 : (.static yX3_isLetter : Cond) ∈ tT := tT_in (i := 277) (by decide +kernel) (by decide +kernel)
theorem m_278 : (.code yX3_isLetter cX3_isLetter 1 (some .boolean) : Cond) ∈ tT := tT_in (i := 278) (by decide +kernel) (by decide +kernel)
theorem m_279 : (.methodLink RX3 45 yX3_goOnWith : Cond) ∈ tT := tT_in (i := 279) (by decide +kernel) (by decide +kernel)
theorem m_281 : (.instanceMethod yX3_goOnWith : Cond) ∈ tT := tT_in (i := 281) (by decide +kernel) (by decide +kernel)
theorem m_282 : (.code yX3_goOnWith cX3_goOnWith 3 (some .boolean) : Cond) ∈ tT := tT_in (i := 282) (by decide +kernel) (by decide +kernel)
theorem m_283 : (.methodLink RX3 72 yX3_addLetter : Cond) ∈ tT := tT_in (i := 283) (by decide +kernel) (by decide +kernel)
theorem m_285 : (.instanceMethod yX3_addLetter : Cond) ∈ tT := tT_in (i := 285) (by decide +kernel) (by decide +kernel)
theorem m_286 : (.code yX3_addLetter cX3_addLetter 5 (some .boolean) : Cond) ∈ tT := tT_in (i := 286) (by decide +kernel) (by decide +kernel)
theorem m_287 : (.methodLink RX3 79 yX3_signMeant : Cond) ∈ tT := tT_in (i := 287) (by decide +kernel) (by decide +kernel)
theorem m_288 : (.static yX3_signMeant : Cond) ∈ tT := tT_in (i := 288) (by decide +kernel) (by decide +kernel)
theorem m_289 : (.code yX3_signMeant cX3_signMeant 1 (some .int) : Cond) ∈ tT := tT_in (i := 289) (by decide +kernel) (by decide +kernel)
theorem m_290 : (.methodLink RX3 76 yX3_addSign : Cond) ∈ tT := tT_in (i := 290) (by decide +kernel) (by decide +kernel)
theorem m_292 : (.instanceMethod yX3_addSign : Cond) ∈ tT := tT_in (i := 292) (by decide +kernel) (by decide +kernel)
theorem m_293 : (.code yX3_addSign cX3_addSign 4 (some .boolean) : Cond) ∈ tT := tT_in (i := 293) (by decide +kernel) (by decide +kernel)
theorem m_295 : (.static yX6_allowsSign : Cond) ∈ tT := tT_in (i := 295) (by decide +kernel) (by decide +kernel)
theorem m_296 : (.code yX6_allowsSign cX6_allowsSign 2 (some .boolean) : Cond) ∈ tT := tT_in (i := 296) (by decide +kernel) (by decide +kernel)
theorem m_297 : (.methodLink RX3 48 yX3_beginPart : Cond) ∈ tT := tT_in (i := 297) (by decide +kernel) (by decide +kernel)
theorem m_299 : (.instanceMethod yX3_beginPart : Cond) ∈ tT := tT_in (i := 299) (by decide +kernel) (by decide +kernel)
theorem m_300 : (.code yX3_beginPart cX3_beginPart 2 (some .boolean) : Cond) ∈ tT := tT_in (i := 300) (by decide +kernel) (by decide +kernel)
theorem m_301 : (.methodLink RL 27 yX6_list : Cond) ∈ tT := tT_in (i := 301) (by decide +kernel) (by decide +kernel)
theorem m_302 : (.instanceMethod yX6_list : Cond) ∈ tT := tT_in (i := 302) (by decide +kernel) (by decide +kernel)
theorem m_303 : (.selects RX6 yX6_list yX6_list : Cond) ∈ tT := tT_in (i := 303) (by decide +kernel) (by decide +kernel)
theorem m_304 : (.code yX6_list cX6_list 2 (some .int) : Cond) ∈ tT := tT_in (i := 304) (by decide +kernel) (by decide +kernel)
theorem m_305 : (.methodLink RX6 78 yX2_takeFrom : Cond) ∈ tT := tT_in (i := 305) (by decide +kernel) (by decide +kernel)
theorem m_306 : (.instanceMethod yX2_takeFrom : Cond) ∈ tT := tT_in (i := 306) (by decide +kernel) (by decide +kernel)
theorem m_307 : (.selects RX2 yX2_takeFrom yX2_takeFrom : Cond) ∈ tT := tT_in (i := 307) (by decide +kernel) (by decide +kernel)
theorem m_308 : (.code yX2_takeFrom cX2_takeFrom 2 none : Cond) ∈ tT := tT_in (i := 308) (by decide +kernel) (by decide +kernel)
theorem m_309 : (.methodLink RX2 21 arraycopyName : Cond) ∈ tT := tT_in (i := 309) (by decide +kernel) (by decide +kernel)
theorem m_310 : (.static arraycopyName : Cond) ∈ tT := tT_in (i := 310) (by decide +kernel) (by decide +kernel)
theorem m_311 : (.native arraycopyName : Cond) ∈ tT := tT_in (i := 311) (by decide +kernel) (by decide +kernel)
theorem m_312 : (.methodLink RX6 82 yX4_beginWith : Cond) ∈ tT := tT_in (i := 312) (by decide +kernel) (by decide +kernel)
theorem m_313 : (.instanceMethod yX4_beginWith : Cond) ∈ tT := tT_in (i := 313) (by decide +kernel) (by decide +kernel)
theorem m_314 : (.selects RX4 yX4_beginWith yX4_beginWith : Cond) ∈ tT := tT_in (i := 314) (by decide +kernel) (by decide +kernel)
theorem m_315 : (.code yX4_beginWith cX4_beginWith 3 none : Cond) ∈ tT := tT_in (i := 315) (by decide +kernel) (by decide +kernel)
theorem m_316 : (.methodLink RX4 31 arraycopyName : Cond) ∈ tT := tT_in (i := 316) (by decide +kernel) (by decide +kernel)
theorem m_317 : (.methodLink RX4 42 yX4_orderByNumber : Cond) ∈ tT := tT_in (i := 317) (by decide +kernel) (by decide +kernel)
theorem m_318 : (.instanceMethod yX4_orderByNumber : Cond) ∈ tT := tT_in (i := 318) (by decide +kernel) (by decide +kernel)
theorem m_319 : (.selects RX4 yX4_orderByNumber yX4_orderByNumber : Cond) ∈ tT := tT_in (i := 319) (by decide +kernel) (by decide +kernel)
theorem m_320 : (.code yX4_orderByNumber cX4_orderByNumber 2 none : Cond) ∈ tT := tT_in (i := 320) (by decide +kernel) (by decide +kernel)
theorem m_321 : (.methodLink RL 31 yX6_about : Cond) ∈ tT := tT_in (i := 321) (by decide +kernel) (by decide +kernel)
theorem m_322 : (.instanceMethod yX6_about : Cond) ∈ tT := tT_in (i := 322) (by decide +kernel) (by decide +kernel)
theorem m_323 : (.selects RX6 yX6_about yX6_about : Cond) ∈ tT := tT_in (i := 323) (by decide +kernel) (by decide +kernel)
theorem m_324 : (.code yX6_about cX6_about 2 (some .int) : Cond) ∈ tT := tT_in (i := 324) (by decide +kernel) (by decide +kernel)
theorem m_325 : (.methodLink RX6 100 yX4_allChanges : Cond) ∈ tT := tT_in (i := 325) (by decide +kernel) (by decide +kernel)
theorem m_326 : (.instanceMethod yX4_allChanges : Cond) ∈ tT := tT_in (i := 326) (by decide +kernel) (by decide +kernel)
theorem m_327 : (.selects RX4 yX4_allChanges yX4_allChanges : Cond) ∈ tT := tT_in (i := 327) (by decide +kernel) (by decide +kernel)
theorem m_328 : (.code yX4_allChanges cX4_allChanges 1 (some .int) : Cond) ∈ tT := tT_in (i := 328) (by decide +kernel) (by decide +kernel)
theorem m_329 : (.methodLink RX6 104 yX4_unlikeWords : Cond) ∈ tT := tT_in (i := 329) (by decide +kernel) (by decide +kernel)
theorem m_330 : (.instanceMethod yX4_unlikeWords : Cond) ∈ tT := tT_in (i := 330) (by decide +kernel) (by decide +kernel)
theorem m_331 : (.selects RX4 yX4_unlikeWords yX4_unlikeWords : Cond) ∈ tT := tT_in (i := 331) (by decide +kernel) (by decide +kernel)
theorem m_332 : (.code yX4_unlikeWords cX4_unlikeWords 6 (some .int) : Cond) ∈ tT := tT_in (i := 332) (by decide +kernel) (by decide +kernel)
theorem m_333 : (.methodLink RX4 62 yX2_joined : Cond) ∈ tT := tT_in (i := 333) (by decide +kernel) (by decide +kernel)
theorem m_334 : (.instanceMethod yX2_joined : Cond) ∈ tT := tT_in (i := 334) (by decide +kernel) (by decide +kernel)
theorem m_335 : (.selects RX2 yX2_joined yX2_joined : Cond) ∈ tT := tT_in (i := 335) (by decide +kernel) (by decide +kernel)
theorem m_336 : (.code yX2_joined cX2_joined 3 (some .int) : Cond) ∈ tT := tT_in (i := 336) (by decide +kernel) (by decide +kernel)
theorem m_337 : (.methodLink RX2 44 yX5_join : Cond) ∈ tT := tT_in (i := 337) (by decide +kernel) (by decide +kernel)
theorem m_338 : (.static yX5_join : Cond) ∈ tT := tT_in (i := 338) (by decide +kernel) (by decide +kernel)
theorem m_339 : (.code yX5_join cX5_join 2 (some .int) : Cond) ∈ tT := tT_in (i := 339) (by decide +kernel) (by decide +kernel)
theorem m_340 : (.methodLink RX4 76 yX4_walkWith : Cond) ∈ tT := tT_in (i := 340) (by decide +kernel) (by decide +kernel)
theorem m_341 : (.instanceMethod yX4_walkWith : Cond) ∈ tT := tT_in (i := 341) (by decide +kernel) (by decide +kernel)
theorem m_342 : (.selects RX4 yX4_walkWith yX4_walkWith : Cond) ∈ tT := tT_in (i := 342) (by decide +kernel) (by decide +kernel)
theorem m_343 : (.code yX4_walkWith cX4_walkWith 5 (some .int) : Cond) ∈ tT := tT_in (i := 343) (by decide +kernel) (by decide +kernel)
theorem m_344 : (.methodLink RX4 59 yX4_goOver : Cond) ∈ tT := tT_in (i := 344) (by decide +kernel) (by decide +kernel)
theorem m_345 : (.instanceMethod yX4_goOver : Cond) ∈ tT := tT_in (i := 345) (by decide +kernel) (by decide +kernel)
theorem m_346 : (.selects RX4 yX4_goOver yX4_goOver : Cond) ∈ tT := tT_in (i := 346) (by decide +kernel) (by decide +kernel)
theorem m_347 : (.code yX4_goOver cX4_goOver 12 (some .int) : Cond) ∈ tT := tT_in (i := 347) (by decide +kernel) (by decide +kernel)
theorem m_348 : (.methodLink RX4 49 yX4_signOf : Cond) ∈ tT := tT_in (i := 348) (by decide +kernel) (by decide +kernel)
theorem m_349 : (.instanceMethod yX4_signOf : Cond) ∈ tT := tT_in (i := 349) (by decide +kernel) (by decide +kernel)
theorem m_350 : (.selects RX4 yX4_signOf yX4_signOf : Cond) ∈ tT := tT_in (i := 350) (by decide +kernel) (by decide +kernel)
theorem m_351 : (.code yX4_signOf cX4_signOf 3 (some .int) : Cond) ∈ tT := tT_in (i := 351) (by decide +kernel) (by decide +kernel)
theorem m_352 : (.methodLink RX4 53 yX5_fits : Cond) ∈ tT := tT_in (i := 352) (by decide +kernel) (by decide +kernel)
theorem m_353 : (.static yX5_fits : Cond) ∈ tT := tT_in (i := 353) (by decide +kernel) (by decide +kernel)
theorem m_354 : (.code yX5_fits cX5_fits 2 (some .boolean) : Cond) ∈ tT := tT_in (i := 354) (by decide +kernel) (by decide +kernel)
theorem m_355 : (.methodLink RX4 79 yX4_isAmongUnlike : Cond) ∈ tT := tT_in (i := 355) (by decide +kernel) (by decide +kernel)
theorem m_357 : (.instanceMethod yX4_isAmongUnlike : Cond) ∈ tT := tT_in (i := 357) (by decide +kernel) (by decide +kernel)
theorem m_358 : (.code yX4_isAmongUnlike cX4_isAmongUnlike 4 (some .boolean) : Cond) ∈ tT := tT_in (i := 358) (by decide +kernel) (by decide +kernel)
theorem m_359 : (.methodLink RX6 108 yX4_activeChanges : Cond) ∈ tT := tT_in (i := 359) (by decide +kernel) (by decide +kernel)
theorem m_360 : (.instanceMethod yX4_activeChanges : Cond) ∈ tT := tT_in (i := 360) (by decide +kernel) (by decide +kernel)
theorem m_361 : (.selects RX4 yX4_activeChanges yX4_activeChanges : Cond) ∈ tT := tT_in (i := 361) (by decide +kernel) (by decide +kernel)
theorem m_362 : (.code yX4_activeChanges cX4_activeChanges 4 (some .int) : Cond) ∈ tT := tT_in (i := 362) (by decide +kernel) (by decide +kernel)
theorem m_363 : (.methodLink RX4 82 yX4_activeOver : Cond) ∈ tT := tT_in (i := 363) (by decide +kernel) (by decide +kernel)
theorem m_365 : (.instanceMethod yX4_activeOver : Cond) ∈ tT := tT_in (i := 365) (by decide +kernel) (by decide +kernel)
theorem m_366 : (.code yX4_activeOver cX4_activeOver 6 (some .int) : Cond) ∈ tT := tT_in (i := 366) (by decide +kernel) (by decide +kernel)
theorem m_367 : (.methodLink RX6 111 yX4_exceptions : Cond) ∈ tT := tT_in (i := 367) (by decide +kernel) (by decide +kernel)
theorem m_368 : (.instanceMethod yX4_exceptions : Cond) ∈ tT := tT_in (i := 368) (by decide +kernel) (by decide +kernel)
theorem m_369 : (.selects RX4 yX4_exceptions yX4_exceptions : Cond) ∈ tT := tT_in (i := 369) (by decide +kernel) (by decide +kernel)
theorem m_370 : (.code yX4_exceptions cX4_exceptions 5 (some .int) : Cond) ∈ tT := tT_in (i := 370) (by decide +kernel) (by decide +kernel)
theorem m_371 : (.methodLink RX4 86 yX4_formOf : Cond) ∈ tT := tT_in (i := 371) (by decide +kernel) (by decide +kernel)
theorem m_372 : (.instanceMethod yX4_formOf : Cond) ∈ tT := tT_in (i := 372) (by decide +kernel) (by decide +kernel)
theorem m_373 : (.selects RX4 yX4_formOf yX4_formOf : Cond) ∈ tT := tT_in (i := 373) (by decide +kernel) (by decide +kernel)
theorem m_374 : (.code yX4_formOf cX4_formOf 3 (some .int) : Cond) ∈ tT := tT_in (i := 374) (by decide +kernel) (by decide +kernel)
theorem m_375 : (.methodLink RX4 89 yX4_makeOf : Cond) ∈ tT := tT_in (i := 375) (by decide +kernel) (by decide +kernel)
theorem m_376 : (.instanceMethod yX4_makeOf : Cond) ∈ tT := tT_in (i := 376) (by decide +kernel) (by decide +kernel)
theorem m_377 : (.selects RX4 yX4_makeOf yX4_makeOf : Cond) ∈ tT := tT_in (i := 377) (by decide +kernel) (by decide +kernel)
theorem m_378 : (.code yX4_makeOf cX4_makeOf 3 (some .int) : Cond) ∈ tT := tT_in (i := 378) (by decide +kernel) (by decide +kernel)
theorem m_379 : (.methodLink RX4 67 yX4_walk : Cond) ∈ tT := tT_in (i := 379) (by decide +kernel) (by decide +kernel)
theorem m_380 : (.instanceMethod yX4_walk : Cond) ∈ tT := tT_in (i := 380) (by decide +kernel) (by decide +kernel)
theorem m_381 : (.selects RX4 yX4_walk yX4_walk : Cond) ∈ tT := tT_in (i := 381) (by decide +kernel) (by decide +kernel)
theorem m_382 : (.code yX4_walk cX4_walk 5 (some .int) : Cond) ∈ tT := tT_in (i := 382) (by decide +kernel) (by decide +kernel)
theorem m_383 : (.methodLink RX6 114 yX4_formCount : Cond) ∈ tT := tT_in (i := 383) (by decide +kernel) (by decide +kernel)
theorem m_384 : (.instanceMethod yX4_formCount : Cond) ∈ tT := tT_in (i := 384) (by decide +kernel) (by decide +kernel)
theorem m_385 : (.selects RX4 yX4_formCount yX4_formCount : Cond) ∈ tT := tT_in (i := 385) (by decide +kernel) (by decide +kernel)
theorem m_386 : (.code yX4_formCount cX4_formCount 3 (some .int) : Cond) ∈ tT := tT_in (i := 386) (by decide +kernel) (by decide +kernel)
theorem m_387 : (.methodLink RL 35 yX6_part : Cond) ∈ tT := tT_in (i := 387) (by decide +kernel) (by decide +kernel)
theorem m_388 : (.instanceMethod yX6_part : Cond) ∈ tT := tT_in (i := 388) (by decide +kernel) (by decide +kernel)
theorem m_389 : (.selects RX6 yX6_part yX6_part : Cond) ∈ tT := tT_in (i := 389) (by decide +kernel) (by decide +kernel)
theorem m_390 : (.code yX6_part cX6_part 3 (some .int) : Cond) ∈ tT := tT_in (i := 390) (by decide +kernel) (by decide +kernel)
theorem m_391 : (.methodLink RX6 118 yX2_hasRoot : Cond) ∈ tT := tT_in (i := 391) (by decide +kernel) (by decide +kernel)
theorem m_392 : (.instanceMethod yX2_hasRoot : Cond) ∈ tT := tT_in (i := 392) (by decide +kernel) (by decide +kernel)
theorem m_393 : (.selects RX2 yX2_hasRoot yX2_hasRoot : Cond) ∈ tT := tT_in (i := 393) (by decide +kernel) (by decide +kernel)
theorem m_394 : (.code yX2_hasRoot cX2_hasRoot 2 (some .boolean) : Cond) ∈ tT := tT_in (i := 394) (by decide +kernel) (by decide +kernel)
theorem m_395 : (.methodLink RX6 125 yX2_hasEnding : Cond) ∈ tT := tT_in (i := 395) (by decide +kernel) (by decide +kernel)
theorem m_396 : (.instanceMethod yX2_hasEnding : Cond) ∈ tT := tT_in (i := 396) (by decide +kernel) (by decide +kernel)
theorem m_397 : (.selects RX2 yX2_hasEnding yX2_hasEnding : Cond) ∈ tT := tT_in (i := 397) (by decide +kernel) (by decide +kernel)
theorem m_398 : (.code yX2_hasEnding cX2_hasEnding 2 (some .boolean) : Cond) ∈ tT := tT_in (i := 398) (by decide +kernel) (by decide +kernel)
theorem m_399 : (.methodLink RL 40 yX6_sign : Cond) ∈ tT := tT_in (i := 399) (by decide +kernel) (by decide +kernel)
theorem m_400 : (.instanceMethod yX6_sign : Cond) ∈ tT := tT_in (i := 400) (by decide +kernel) (by decide +kernel)
theorem m_401 : (.selects RX6 yX6_sign yX6_sign : Cond) ∈ tT := tT_in (i := 401) (by decide +kernel) (by decide +kernel)
theorem m_402 : (.code yX6_sign cX6_sign 3 (some .int) : Cond) ∈ tT := tT_in (i := 402) (by decide +kernel) (by decide +kernel)
theorem m_403 : (.methodLink RX6 131 yX4_hasChange : Cond) ∈ tT := tT_in (i := 403) (by decide +kernel) (by decide +kernel)
theorem m_404 : (.instanceMethod yX4_hasChange : Cond) ∈ tT := tT_in (i := 404) (by decide +kernel) (by decide +kernel)
theorem m_405 : (.selects RX4 yX4_hasChange yX4_hasChange : Cond) ∈ tT := tT_in (i := 405) (by decide +kernel) (by decide +kernel)
theorem m_406 : (.code yX4_hasChange cX4_hasChange 2 (some .boolean) : Cond) ∈ tT := tT_in (i := 406) (by decide +kernel) (by decide +kernel)
theorem m_407 : (.methodLink RX6 134 yX6_isSignPlace : Cond) ∈ tT := tT_in (i := 407) (by decide +kernel) (by decide +kernel)
theorem m_408 : (.static yX6_isSignPlace : Cond) ∈ tT := tT_in (i := 408) (by decide +kernel) (by decide +kernel)
theorem m_409 : (.code yX6_isSignPlace cX6_isSignPlace 1 (some .boolean) : Cond) ∈ tT := tT_in (i := 409) (by decide +kernel) (by decide +kernel)
theorem m_410 : (.methodLink RX6 137 yX4_signOf : Cond) ∈ tT := tT_in (i := 410) (by decide +kernel) (by decide +kernel)
theorem m_411 : (.methodLink RL 44 yX6_order : Cond) ∈ tT := tT_in (i := 411) (by decide +kernel) (by decide +kernel)
theorem m_412 : (.instanceMethod yX6_order : Cond) ∈ tT := tT_in (i := 412) (by decide +kernel) (by decide +kernel)
theorem m_413 : (.selects RX6 yX6_order yX6_order : Cond) ∈ tT := tT_in (i := 413) (by decide +kernel) (by decide +kernel)
theorem m_414 : (.code yX6_order cX6_order 2 (some .int) : Cond) ∈ tT := tT_in (i := 414) (by decide +kernel) (by decide +kernel)
theorem m_415 : (.methodLink RL 48 yX6_made : Cond) ∈ tT := tT_in (i := 415) (by decide +kernel) (by decide +kernel)
theorem m_416 : (.instanceMethod yX6_made : Cond) ∈ tT := tT_in (i := 416) (by decide +kernel) (by decide +kernel)
theorem m_417 : (.selects RX6 yX6_made yX6_made : Cond) ∈ tT := tT_in (i := 417) (by decide +kernel) (by decide +kernel)
theorem m_418 : (.code yX6_made cX6_made 3 (some .int) : Cond) ∈ tT := tT_in (i := 418) (by decide +kernel) (by decide +kernel)
theorem m_419 : (.methodLink RX6 144 yX2_hasPair : Cond) ∈ tT := tT_in (i := 419) (by decide +kernel) (by decide +kernel)
theorem m_420 : (.instanceMethod yX2_hasPair : Cond) ∈ tT := tT_in (i := 420) (by decide +kernel) (by decide +kernel)
theorem m_421 : (.selects RX2 yX2_hasPair yX2_hasPair : Cond) ∈ tT := tT_in (i := 421) (by decide +kernel) (by decide +kernel)
theorem m_422 : (.code yX2_hasPair cX2_hasPair 3 (some .boolean) : Cond) ∈ tT := tT_in (i := 422) (by decide +kernel) (by decide +kernel)
theorem m_423 : (.methodLink RX2 37 yX2_hasRoot : Cond) ∈ tT := tT_in (i := 423) (by decide +kernel) (by decide +kernel)
theorem m_424 : (.methodLink RX2 41 yX2_hasEnding : Cond) ∈ tT := tT_in (i := 424) (by decide +kernel) (by decide +kernel)
theorem m_425 : (.methodLink RX6 148 yX4_makeOf : Cond) ∈ tT := tT_in (i := 425) (by decide +kernel) (by decide +kernel)
theorem m_426 : (.methodLink RL 52 yX6_step : Cond) ∈ tT := tT_in (i := 426) (by decide +kernel) (by decide +kernel)
theorem m_427 : (.instanceMethod yX6_step : Cond) ∈ tT := tT_in (i := 427) (by decide +kernel) (by decide +kernel)
theorem m_428 : (.selects RX6 yX6_step yX6_step : Cond) ∈ tT := tT_in (i := 428) (by decide +kernel) (by decide +kernel)
theorem m_429 : (.code yX6_step cX6_step 4 (some .int) : Cond) ∈ tT := tT_in (i := 429) (by decide +kernel) (by decide +kernel)
theorem m_430 : (.methodLink RX6 151 yX2_joined : Cond) ∈ tT := tT_in (i := 430) (by decide +kernel) (by decide +kernel)
theorem m_431 : (.methodLink RX6 154 yX4_walk : Cond) ∈ tT := tT_in (i := 431) (by decide +kernel) (by decide +kernel)
theorem m_432 : (.methodLink RL 57 yX6_apart : Cond) ∈ tT := tT_in (i := 432) (by decide +kernel) (by decide +kernel)
theorem m_433 : (.instanceMethod yX6_apart : Cond) ∈ tT := tT_in (i := 433) (by decide +kernel) (by decide +kernel)
theorem m_434 : (.selects RX6 yX6_apart yX6_apart : Cond) ∈ tT := tT_in (i := 434) (by decide +kernel) (by decide +kernel)
theorem m_435 : (.code yX6_apart cX6_apart 7 (some .int) : Cond) ∈ tT := tT_in (i := 435) (by decide +kernel) (by decide +kernel)
theorem m_436 : (.methodLink RX6 157 yX5_isWord : Cond) ∈ tT := tT_in (i := 436) (by decide +kernel) (by decide +kernel)
theorem m_437 : (.static yX5_isWord : Cond) ∈ tT := tT_in (i := 437) (by decide +kernel) (by decide +kernel)
theorem m_438 : (.code yX5_isWord cX5_isWord 4 (some .boolean) : Cond) ∈ tT := tT_in (i := 438) (by decide +kernel) (by decide +kernel)
theorem m_439 : (.constant RX5 9 555555 : Cond) ∈ tT := tT_in (i := 439) (by decide +kernel) (by decide +kernel)
theorem m_440 : (.methodLink RL 61 yX6_form : Cond) ∈ tT := tT_in (i := 440) (by decide +kernel) (by decide +kernel)
theorem m_441 : (.instanceMethod yX6_form : Cond) ∈ tT := tT_in (i := 441) (by decide +kernel) (by decide +kernel)
theorem m_442 : (.selects RX6 yX6_form yX6_form : Cond) ∈ tT := tT_in (i := 442) (by decide +kernel) (by decide +kernel)
theorem m_443 : (.code yX6_form cX6_form 3 (some .int) : Cond) ∈ tT := tT_in (i := 443) (by decide +kernel) (by decide +kernel)
theorem m_444 : (.methodLink RX6 162 yX4_formOf : Cond) ∈ tT := tT_in (i := 444) (by decide +kernel) (by decide +kernel)
theorem m_445 : (.methodLink RL 65 yX6_swap : Cond) ∈ tT := tT_in (i := 445) (by decide +kernel) (by decide +kernel)
theorem m_446 : (.instanceMethod yX6_swap : Cond) ∈ tT := tT_in (i := 446) (by decide +kernel) (by decide +kernel)
theorem m_447 : (.selects RX6 yX6_swap yX6_swap : Cond) ∈ tT := tT_in (i := 447) (by decide +kernel) (by decide +kernel)
theorem m_448 : (.code yX6_swap cX6_swap 3 (some .int) : Cond) ∈ tT := tT_in (i := 448) (by decide +kernel) (by decide +kernel)
theorem m_449 : (.methodLink RX6 165 yX4_exchange : Cond) ∈ tT := tT_in (i := 449) (by decide +kernel) (by decide +kernel)
theorem m_450 : (.instanceMethod yX4_exchange : Cond) ∈ tT := tT_in (i := 450) (by decide +kernel) (by decide +kernel)
theorem m_451 : (.selects RX4 yX4_exchange yX4_exchange : Cond) ∈ tT := tT_in (i := 451) (by decide +kernel) (by decide +kernel)
theorem m_452 : (.code yX4_exchange cX4_exchange 4 none : Cond) ∈ tT := tT_in (i := 452) (by decide +kernel) (by decide +kernel)
theorem m_453 : (.methodLink RX6 169 yX0_add : Cond) ∈ tT := tT_in (i := 453) (by decide +kernel) (by decide +kernel)
theorem m_454 : (.instanceMethod yX0_add : Cond) ∈ tT := tT_in (i := 454) (by decide +kernel) (by decide +kernel)
theorem m_455 : (.selects RX0 yX0_add yX0_add : Cond) ∈ tT := tT_in (i := 455) (by decide +kernel) (by decide +kernel)
theorem m_456 : (.code yX0_add cX0_add 6 none : Cond) ∈ tT := tT_in (i := 456) (by decide +kernel) (by decide +kernel)
theorem m_457 : (.methodLink RL 69 yX6_resign : Cond) ∈ tT := tT_in (i := 457) (by decide +kernel) (by decide +kernel)
theorem m_458 : (.instanceMethod yX6_resign : Cond) ∈ tT := tT_in (i := 458) (by decide +kernel) (by decide +kernel)
theorem m_459 : (.selects RX6 yX6_resign yX6_resign : Cond) ∈ tT := tT_in (i := 459) (by decide +kernel) (by decide +kernel)
theorem m_460 : (.code yX6_resign cX6_resign 5 (some .int) : Cond) ∈ tT := tT_in (i := 460) (by decide +kernel) (by decide +kernel)
theorem m_461 : (.methodLink RX6 173 yX6_allowsSign : Cond) ∈ tT := tT_in (i := 461) (by decide +kernel) (by decide +kernel)
theorem m_462 : (.methodLink RX6 176 yX4_putSign : Cond) ∈ tT := tT_in (i := 462) (by decide +kernel) (by decide +kernel)
theorem m_463 : (.instanceMethod yX4_putSign : Cond) ∈ tT := tT_in (i := 463) (by decide +kernel) (by decide +kernel)
theorem m_464 : (.selects RX4 yX4_putSign yX4_putSign : Cond) ∈ tT := tT_in (i := 464) (by decide +kernel) (by decide +kernel)
theorem m_465 : (.code yX4_putSign cX4_putSign 4 none : Cond) ∈ tT := tT_in (i := 465) (by decide +kernel) (by decide +kernel)
theorem m_466 : (.methodLink RL 73 yX6_tell : Cond) ∈ tT := tT_in (i := 466) (by decide +kernel) (by decide +kernel)
theorem m_467 : (.instanceMethod yX6_tell : Cond) ∈ tT := tT_in (i := 467) (by decide +kernel) (by decide +kernel)
theorem m_468 : (.selects RX6 yX6_tell yX6_tell : Cond) ∈ tT := tT_in (i := 468) (by decide +kernel) (by decide +kernel)
theorem m_469 : (.code yX6_tell cX6_tell 5 (some .int) : Cond) ∈ tT := tT_in (i := 469) (by decide +kernel) (by decide +kernel)
theorem m_470 : (.methodLink RX6 180 yX4_putForm : Cond) ∈ tT := tT_in (i := 470) (by decide +kernel) (by decide +kernel)
theorem m_471 : (.instanceMethod yX4_putForm : Cond) ∈ tT := tT_in (i := 471) (by decide +kernel) (by decide +kernel)
theorem m_472 : (.selects RX4 yX4_putForm yX4_putForm : Cond) ∈ tT := tT_in (i := 472) (by decide +kernel) (by decide +kernel)
theorem m_473 : (.code yX4_putForm cX4_putForm 4 none : Cond) ∈ tT := tT_in (i := 473) (by decide +kernel) (by decide +kernel)
theorem m_474 : (.methodLink RL 77 yX6_undo : Cond) ∈ tT := tT_in (i := 474) (by decide +kernel) (by decide +kernel)
theorem m_475 : (.instanceMethod yX6_undo : Cond) ∈ tT := tT_in (i := 475) (by decide +kernel) (by decide +kernel)
theorem m_476 : (.selects RX6 yX6_undo yX6_undo : Cond) ∈ tT := tT_in (i := 476) (by decide +kernel) (by decide +kernel)
theorem m_477 : (.code yX6_undo cX6_undo 1 (some .int) : Cond) ∈ tT := tT_in (i := 477) (by decide +kernel) (by decide +kernel)
theorem m_478 : (.methodLink RX6 183 yX0_takeBackLast : Cond) ∈ tT := tT_in (i := 478) (by decide +kernel) (by decide +kernel)
theorem m_479 : (.instanceMethod yX0_takeBackLast : Cond) ∈ tT := tT_in (i := 479) (by decide +kernel) (by decide +kernel)
theorem m_480 : (.selects RX0 yX0_takeBackLast yX0_takeBackLast : Cond) ∈ tT := tT_in (i := 480) (by decide +kernel) (by decide +kernel)
theorem m_481 : (.code yX0_takeBackLast cX0_takeBackLast 3 none : Cond) ∈ tT := tT_in (i := 481) (by decide +kernel) (by decide +kernel)
theorem m_482 : (.methodLink RX0 31 yX4_exchange : Cond) ∈ tT := tT_in (i := 482) (by decide +kernel) (by decide +kernel)
theorem m_483 : (.methodLink RX0 37 yX4_putSign : Cond) ∈ tT := tT_in (i := 483) (by decide +kernel) (by decide +kernel)
theorem m_484 : (.methodLink RX0 41 yX4_putForm : Cond) ∈ tT := tT_in (i := 484) (by decide +kernel) (by decide +kernel)
theorem m_485 : (.methodLink RL 81 yX6_cross : Cond) ∈ tT := tT_in (i := 485) (by decide +kernel) (by decide +kernel)
theorem m_486 : (.instanceMethod yX6_cross : Cond) ∈ tT := tT_in (i := 486) (by decide +kernel) (by decide +kernel)
theorem m_487 : (.selects RX6 yX6_cross yX6_cross : Cond) ∈ tT := tT_in (i := 487) (by decide +kernel) (by decide +kernel)
theorem m_488 : (.code yX6_cross cX6_cross 3 (some .int) : Cond) ∈ tT := tT_in (i := 488) (by decide +kernel) (by decide +kernel)
theorem m_489 : (.methodLink RX6 187 yX4_doCross : Cond) ∈ tT := tT_in (i := 489) (by decide +kernel) (by decide +kernel)
theorem m_490 : (.instanceMethod yX4_doCross : Cond) ∈ tT := tT_in (i := 490) (by decide +kernel) (by decide +kernel)
theorem m_491 : (.selects RX4 yX4_doCross yX4_doCross : Cond) ∈ tT := tT_in (i := 491) (by decide +kernel) (by decide +kernel)
theorem m_492 : (.code yX4_doCross cX4_doCross 6 (some .boolean) : Cond) ∈ tT := tT_in (i := 492) (by decide +kernel) (by decide +kernel)
theorem m_493 : (.methodLink RL 85 yX6_best : Cond) ∈ tT := tT_in (i := 493) (by decide +kernel) (by decide +kernel)
theorem m_494 : (.instanceMethod yX6_best : Cond) ∈ tT := tT_in (i := 494) (by decide +kernel) (by decide +kernel)
theorem m_495 : (.selects RX6 yX6_best yX6_best : Cond) ∈ tT := tT_in (i := 495) (by decide +kernel) (by decide +kernel)
theorem m_496 : (.code yX6_best cX6_best 7 (some .int) : Cond) ∈ tT := tT_in (i := 496) (by decide +kernel) (by decide +kernel)
theorem m_497 : (.methodLink RX6 190 yX4_takeFrom : Cond) ∈ tT := tT_in (i := 497) (by decide +kernel) (by decide +kernel)
theorem m_498 : (.instanceMethod yX4_takeFrom : Cond) ∈ tT := tT_in (i := 498) (by decide +kernel) (by decide +kernel)
theorem m_499 : (.selects RX4 yX4_takeFrom yX4_takeFrom : Cond) ∈ tT := tT_in (i := 499) (by decide +kernel) (by decide +kernel)
theorem m_500 : (.code yX4_takeFrom cX4_takeFrom 2 none : Cond) ∈ tT := tT_in (i := 500) (by decide +kernel) (by decide +kernel)
theorem m_501 : (.methodLink RX6 192 yX4_orderByNumber : Cond) ∈ tT := tT_in (i := 501) (by decide +kernel) (by decide +kernel)
theorem m_502 : (.methodLink RX6 195 yX4_orderFigures : Cond) ∈ tT := tT_in (i := 502) (by decide +kernel) (by decide +kernel)
theorem m_503 : (.instanceMethod yX4_orderFigures : Cond) ∈ tT := tT_in (i := 503) (by decide +kernel) (by decide +kernel)
theorem m_504 : (.selects RX4 yX4_orderFigures yX4_orderFigures : Cond) ∈ tT := tT_in (i := 504) (by decide +kernel) (by decide +kernel)
theorem m_505 : (.code yX4_orderFigures cX4_orderFigures 3 (some .int) : Cond) ∈ tT := tT_in (i := 505) (by decide +kernel) (by decide +kernel)
theorem m_506 : (.methodLink RX6 198 yX4_goToNextOrder : Cond) ∈ tT := tT_in (i := 506) (by decide +kernel) (by decide +kernel)
theorem m_507 : (.instanceMethod yX4_goToNextOrder : Cond) ∈ tT := tT_in (i := 507) (by decide +kernel) (by decide +kernel)
theorem m_508 : (.selects RX4 yX4_goToNextOrder yX4_goToNextOrder : Cond) ∈ tT := tT_in (i := 508) (by decide +kernel) (by decide +kernel)
theorem m_509 : (.code yX4_goToNextOrder cX4_goToNextOrder 5 (some .boolean) : Cond) ∈ tT := tT_in (i := 509) (by decide +kernel) (by decide +kernel)
theorem m_510 : (.methodLink RX4 45 yX4_exchange : Cond) ∈ tT := tT_in (i := 510) (by decide +kernel) (by decide +kernel)
theorem m_511 : (.methodLink RL 91 yX6_judge : Cond) ∈ tT := tT_in (i := 511) (by decide +kernel) (by decide +kernel)
theorem m_512 : (.instanceMethod yX6_judge : Cond) ∈ tT := tT_in (i := 512) (by decide +kernel) (by decide +kernel)
theorem m_513 : (.selects RX6 yX6_judge yX6_judge : Cond) ∈ tT := tT_in (i := 513) (by decide +kernel) (by decide +kernel)
theorem m_514 : (.code yX6_judge cX6_judge 6 (some .int) : Cond) ∈ tT := tT_in (i := 514) (by decide +kernel) (by decide +kernel)
theorem m_515 : (.methodLink RX6 202 yX6_withoutLastFours : Cond) ∈ tT := tT_in (i := 515) (by decide +kernel) (by decide +kernel)
theorem m_516 : (.static yX6_withoutLastFours : Cond) ∈ tT := tT_in (i := 516) (by decide +kernel) (by decide +kernel)
theorem m_517 : (.code yX6_withoutLastFours cX6_withoutLastFours 6 (some .long) : Cond) ∈ tT := tT_in (i := 517) (by decide +kernel) (by decide +kernel)
theorem m_518 : (.constantLong RX6 206 10000 : Cond) ∈ tT := tT_in (i := 518) (by decide +kernel) (by decide +kernel)
theorem m_519 : (.methodLink RX6 208 yX6_canBe : Cond) ∈ tT := tT_in (i := 519) (by decide +kernel) (by decide +kernel)
theorem m_521 : (.instanceMethod yX6_canBe : Cond) ∈ tT := tT_in (i := 521) (by decide +kernel) (by decide +kernel)
theorem m_522 : (.code yX6_canBe cX6_canBe 5 (some .boolean) : Cond) ∈ tT := tT_in (i := 522) (by decide +kernel) (by decide +kernel)
theorem m_523 : (.methodLink RX6 250 yX6_canSwap : Cond) ∈ tT := tT_in (i := 523) (by decide +kernel) (by decide +kernel)
theorem m_525 : (.instanceMethod yX6_canSwap : Cond) ∈ tT := tT_in (i := 525) (by decide +kernel) (by decide +kernel)
theorem m_526 : (.code yX6_canSwap cX6_canSwap 3 (some .boolean) : Cond) ∈ tT := tT_in (i := 526) (by decide +kernel) (by decide +kernel)
theorem m_527 : (.methodLink RX6 253 yX6_canSign : Cond) ∈ tT := tT_in (i := 527) (by decide +kernel) (by decide +kernel)
theorem m_529 : (.instanceMethod yX6_canSign : Cond) ∈ tT := tT_in (i := 529) (by decide +kernel) (by decide +kernel)
theorem m_530 : (.code yX6_canSign cX6_canSign 4 (some .boolean) : Cond) ∈ tT := tT_in (i := 530) (by decide +kernel) (by decide +kernel)
theorem m_531 : (.methodLink RX6 244 yX5_lengthOf : Cond) ∈ tT := tT_in (i := 531) (by decide +kernel) (by decide +kernel)
theorem m_532 : (.static yX5_lengthOf : Cond) ∈ tT := tT_in (i := 532) (by decide +kernel) (by decide +kernel)
theorem m_533 : (.code yX5_lengthOf cX5_lengthOf 4 (some .int) : Cond) ∈ tT := tT_in (i := 533) (by decide +kernel) (by decide +kernel)
theorem m_534 : (.methodLink RL 96 yX6_share : Cond) ∈ tT := tT_in (i := 534) (by decide +kernel) (by decide +kernel)
theorem m_535 : (.instanceMethod yX6_share : Cond) ∈ tT := tT_in (i := 535) (by decide +kernel) (by decide +kernel)
theorem m_536 : (.selects RX6 yX6_share yX6_share : Cond) ∈ tT := tT_in (i := 536) (by decide +kernel) (by decide +kernel)
theorem m_537 : (.code yX6_share cX6_share 8 (some .int) : Cond) ∈ tT := tT_in (i := 537) (by decide +kernel) (by decide +kernel)
theorem m_538 : (.methodLink RX6 212 yJ6_bitCount_0f7a4 : Cond) ∈ tT := tT_in (i := 538) (by decide +kernel) (by decide +kernel)
theorem m_539 : (.static yJ6_bitCount_0f7a4 : Cond) ∈ tT := tT_in (i := 539) (by decide +kernel) (by decide +kernel)
theorem m_540 : (.code yJ6_bitCount_0f7a4 cJ6_bitCount_0f7a4 1 (some .int) : Cond) ∈ tT := tT_in (i := 540) (by decide +kernel) (by decide +kernel)
theorem m_541 : (.constant RJ6 265 1431655765 : Cond) ∈ tT := tT_in (i := 541) (by decide +kernel) (by decide +kernel)
theorem m_542 : (.constant RJ6 266 858993459 : Cond) ∈ tT := tT_in (i := 542) (by decide +kernel) (by decide +kernel)
theorem m_543 : (.constant RJ6 267 252645135 : Cond) ∈ tT := tT_in (i := 543) (by decide +kernel) (by decide +kernel)
theorem m_544 : (.fieldLink RX6 217 "WordKin" "FACTORIALS" "[I" : Cond) ∈ tT := tT_in (i := 544) (by decide +kernel) (by decide +kernel)
theorem m_546 : (.methodLink RX6 220 yX6_fraction : Cond) ∈ tT := tT_in (i := 546) (by decide +kernel) (by decide +kernel)
theorem m_547 : (.static yX6_fraction : Cond) ∈ tT := tT_in (i := 547) (by decide +kernel) (by decide +kernel)
theorem m_548 : (.code yX6_fraction cX6_fraction 5 (some .int) : Cond) ∈ tT := tT_in (i := 548) (by decide +kernel) (by decide +kernel)
theorem m_549 : (.methodLink RX6 257 yJ9_abs_0f7a4 : Cond) ∈ tT := tT_in (i := 549) (by decide +kernel) (by decide +kernel)
theorem m_550 : (.static yJ9_abs_0f7a4 : Cond) ∈ tT := tT_in (i := 550) (by decide +kernel) (by decide +kernel)
theorem m_551 : (.code yJ9_abs_0f7a4 cJ9_abs_0f7a4 1 (some .int) : Cond) ∈ tT := tT_in (i := 551) (by decide +kernel) (by decide +kernel)
theorem m_552 : (.methodLink RX6 262 yX6_sharedDivisor : Cond) ∈ tT := tT_in (i := 552) (by decide +kernel) (by decide +kernel)
theorem m_553 : (.static yX6_sharedDivisor : Cond) ∈ tT := tT_in (i := 553) (by decide +kernel) (by decide +kernel)
theorem m_554 : (.code yX6_sharedDivisor cX6_sharedDivisor 6 (some .int) : Cond) ∈ tT := tT_in (i := 554) (by decide +kernel) (by decide +kernel)
theorem m_555 : (.methodLink RL 101 yX6_see : Cond) ∈ tT := tT_in (i := 555) (by decide +kernel) (by decide +kernel)
theorem m_556 : (.instanceMethod yX6_see : Cond) ∈ tT := tT_in (i := 556) (by decide +kernel) (by decide +kernel)
theorem m_557 : (.selects RX6 yX6_see yX6_see : Cond) ∈ tT := tT_in (i := 557) (by decide +kernel) (by decide +kernel)
theorem m_558 : (.code yX6_see cX6_see 5 (some .int) : Cond) ∈ tT := tT_in (i := 558) (by decide +kernel) (by decide +kernel)
theorem m_559 : (.methodLink RX6 224 yX1_add : Cond) ∈ tT := tT_in (i := 559) (by decide +kernel) (by decide +kernel)
theorem m_560 : (.instanceMethod yX1_add : Cond) ∈ tT := tT_in (i := 560) (by decide +kernel) (by decide +kernel)
theorem m_561 : (.selects RX1 yX1_add yX1_add : Cond) ∈ tT := tT_in (i := 561) (by decide +kernel) (by decide +kernel)
theorem m_562 : (.code yX1_add cX1_add 5 (some .boolean) : Cond) ∈ tT := tT_in (i := 562) (by decide +kernel) (by decide +kernel)
theorem m_563 : (.methodLink RL 106 yX6_unsee : Cond) ∈ tT := tT_in (i := 563) (by decide +kernel) (by decide +kernel)
theorem m_564 : (.instanceMethod yX6_unsee : Cond) ∈ tT := tT_in (i := 564) (by decide +kernel) (by decide +kernel)
theorem m_565 : (.selects RX6 yX6_unsee yX6_unsee : Cond) ∈ tT := tT_in (i := 565) (by decide +kernel) (by decide +kernel)
theorem m_566 : (.code yX6_unsee cX6_unsee 2 (some .int) : Cond) ∈ tT := tT_in (i := 566) (by decide +kernel) (by decide +kernel)
theorem m_567 : (.methodLink RL 110 yX6_which : Cond) ∈ tT := tT_in (i := 567) (by decide +kernel) (by decide +kernel)
theorem m_568 : (.instanceMethod yX6_which : Cond) ∈ tT := tT_in (i := 568) (by decide +kernel) (by decide +kernel)
theorem m_569 : (.selects RX6 yX6_which yX6_which : Cond) ∈ tT := tT_in (i := 569) (by decide +kernel) (by decide +kernel)
theorem m_570 : (.code yX6_which cX6_which 6 (some .int) : Cond) ∈ tT := tT_in (i := 570) (by decide +kernel) (by decide +kernel)
theorem m_571 : (.methodLink RX6 227 yX1_agreeWith : Cond) ∈ tT := tT_in (i := 571) (by decide +kernel) (by decide +kernel)
theorem m_572 : (.instanceMethod yX1_agreeWith : Cond) ∈ tT := tT_in (i := 572) (by decide +kernel) (by decide +kernel)
theorem m_573 : (.selects RX1 yX1_agreeWith yX1_agreeWith : Cond) ∈ tT := tT_in (i := 573) (by decide +kernel) (by decide +kernel)
theorem m_574 : (.code yX1_agreeWith cX1_agreeWith 6 (some .boolean) : Cond) ∈ tT := tT_in (i := 574) (by decide +kernel) (by decide +kernel)
theorem m_575 : (.methodLink RX1 29 yX2_hasEnding : Cond) ∈ tT := tT_in (i := 575) (by decide +kernel) (by decide +kernel)
theorem m_576 : (.methodLink RX1 36 yX5_join : Cond) ∈ tT := tT_in (i := 576) (by decide +kernel) (by decide +kernel)
theorem m_577 : (.methodLink RX1 47 yX4_walk : Cond) ∈ tT := tT_in (i := 577) (by decide +kernel) (by decide +kernel)
theorem m_578 : (.methodLink RX1 50 yX5_letterAt : Cond) ∈ tT := tT_in (i := 578) (by decide +kernel) (by decide +kernel)
theorem m_579 : (.static yX5_letterAt : Cond) ∈ tT := tT_in (i := 579) (by decide +kernel) (by decide +kernel)
theorem m_580 : (.code yX5_letterAt cX5_letterAt 5 (some .int) : Cond) ∈ tT := tT_in (i := 580) (by decide +kernel) (by decide +kernel)
theorem m_581 : (.methodLink RX5 10 yX5_lengthOf : Cond) ∈ tT := tT_in (i := 581) (by decide +kernel) (by decide +kernel)
theorem m_582 : (.methodLink RL 114 yX6_fails : Cond) ∈ tT := tT_in (i := 582) (by decide +kernel) (by decide +kernel)
theorem m_583 : (.instanceMethod yX6_fails : Cond) ∈ tT := tT_in (i := 583) (by decide +kernel) (by decide +kernel)
theorem m_584 : (.selects RX6 yX6_fails yX6_fails : Cond) ∈ tT := tT_in (i := 584) (by decide +kernel) (by decide +kernel)
theorem m_585 : (.code yX6_fails cX6_fails 10 (some .int) : Cond) ∈ tT := tT_in (i := 585) (by decide +kernel) (by decide +kernel)
theorem m_586 : (.methodLink RX6 231 yX4_walkWith : Cond) ∈ tT := tT_in (i := 586) (by decide +kernel) (by decide +kernel)
theorem m_587 : (.methodLink RX6 234 yX6_power : Cond) ∈ tT := tT_in (i := 587) (by decide +kernel) (by decide +kernel)
theorem m_588 : (.static yX6_power : Cond) ∈ tT := tT_in (i := 588) (by decide +kernel) (by decide +kernel)
theorem m_589 : (.code yX6_power cX6_power 4 (some .int) : Cond) ∈ tT := tT_in (i := 589) (by decide +kernel) (by decide +kernel)
theorem m_590 : (.methodLink RL 119 yX6_seed : Cond) ∈ tT := tT_in (i := 590) (by decide +kernel) (by decide +kernel)
theorem m_591 : (.instanceMethod yX6_seed : Cond) ∈ tT := tT_in (i := 591) (by decide +kernel) (by decide +kernel)
theorem m_592 : (.selects RX6 yX6_seed yX6_seed : Cond) ∈ tT := tT_in (i := 592) (by decide +kernel) (by decide +kernel)
theorem m_593 : (.code yX6_seed cX6_seed 5 (some .long) : Cond) ∈ tT := tT_in (i := 593) (by decide +kernel) (by decide +kernel)
theorem m_594 : (.methodLink RL 124 yX6_drawn : Cond) ∈ tT := tT_in (i := 594) (by decide +kernel) (by decide +kernel)
theorem m_595 : (.instanceMethod yX6_drawn : Cond) ∈ tT := tT_in (i := 595) (by decide +kernel) (by decide +kernel)
theorem m_596 : (.selects RX6 yX6_drawn yX6_drawn : Cond) ∈ tT := tT_in (i := 596) (by decide +kernel) (by decide +kernel)
theorem m_597 : (.code yX6_drawn cX6_drawn 6 (some .int) : Cond) ∈ tT := tT_in (i := 597) (by decide +kernel) (by decide +kernel)
theorem m_598 : (.constantLong RX6 237 6364136223846793005 : Cond) ∈ tT := tT_in (i := 598) (by decide +kernel) (by decide +kernel)
theorem m_599 : (.constantLong RX6 239 1442695040888963407 : Cond) ∈ tT := tT_in (i := 599) (by decide +kernel) (by decide +kernel)
theorem m_600 : (.methodLink RX6 241 yX6_rootDrawnFrom : Cond) ∈ tT := tT_in (i := 600) (by decide +kernel) (by decide +kernel)
theorem m_601 : (.static yX6_rootDrawnFrom : Cond) ∈ tT := tT_in (i := 601) (by decide +kernel) (by decide +kernel)
theorem m_602 : (.code yX6_rootDrawnFrom cX6_rootDrawnFrom 5 (some .int) : Cond) ∈ tT := tT_in (i := 602) (by decide +kernel) (by decide +kernel)
theorem m_603 : (.methodLink RL 128 yX6_keep : Cond) ∈ tT := tT_in (i := 603) (by decide +kernel) (by decide +kernel)
theorem m_604 : (.instanceMethod yX6_keep : Cond) ∈ tT := tT_in (i := 604) (by decide +kernel) (by decide +kernel)
theorem m_605 : (.selects RX6 yX6_keep yX6_keep : Cond) ∈ tT := tT_in (i := 605) (by decide +kernel) (by decide +kernel)
theorem m_606 : (.code yX6_keep cX6_keep 2 (some .int) : Cond) ∈ tT := tT_in (i := 606) (by decide +kernel) (by decide +kernel)
theorem m_607 : (.methodLink RX6 247 yX6_isSlot : Cond) ∈ tT := tT_in (i := 607) (by decide +kernel) (by decide +kernel)
theorem m_608 : (.static yX6_isSlot : Cond) ∈ tT := tT_in (i := 608) (by decide +kernel) (by decide +kernel)
theorem m_609 : (.code yX6_isSlot cX6_isSlot 1 (some .boolean) : Cond) ∈ tT := tT_in (i := 609) (by decide +kernel) (by decide +kernel)
theorem m_610 : (.methodLink RL 132 yX6_again : Cond) ∈ tT := tT_in (i := 610) (by decide +kernel) (by decide +kernel)
theorem m_611 : (.instanceMethod yX6_again : Cond) ∈ tT := tT_in (i := 611) (by decide +kernel) (by decide +kernel)
theorem m_612 : (.selects RX6 yX6_again yX6_again : Cond) ∈ tT := tT_in (i := 612) (by decide +kernel) (by decide +kernel)
theorem m_613 : (.code yX6_again cX6_again 2 (some .int) : Cond) ∈ tT := tT_in (i := 613) (by decide +kernel) (by decide +kernel)
theorem m_614 : (.classLink RL 10 RX7 : Cond) ∈ tT := tT_in (i := 614) (by decide +kernel) (by decide +kernel)
theorem m_615 : (.instantiable RX7 30 : Cond) ∈ tT := tT_in (i := 615) (by decide +kernel) (by decide +kernel)
theorem m_616 : (.methodLink RL 12 yX7_init : Cond) ∈ tT := tT_in (i := 616) (by decide +kernel) (by decide +kernel)
theorem m_617 : (.instanceMethod yX7_init : Cond) ∈ tT := tT_in (i := 617) (by decide +kernel) (by decide +kernel)
theorem m_618 : (.code yX7_init cX7_init 1 none : Cond) ∈ tT := tT_in (i := 618) (by decide +kernel) (by decide +kernel)
theorem m_619 : (.methodLink RX7 1 objectInit : Cond) ∈ tT := tT_in (i := 619) (by decide +kernel) (by decide +kernel)
theorem m_620 : (.methodLink RX7 62 yX7_forgetForms : Cond) ∈ tT := tT_in (i := 620) (by decide +kernel) (by decide +kernel)
theorem m_622 : (.instanceMethod yX7_forgetForms : Cond) ∈ tT := tT_in (i := 622) (by decide +kernel) (by decide +kernel)
theorem m_623 : (.code yX7_forgetForms cX7_forgetForms 2 none : Cond) ∈ tT := tT_in (i := 623) (by decide +kernel) (by decide +kernel)
theorem m_624 : (.fieldLink RX7 7 "WordKinModel" "text" "[I" : Cond) ∈ tT := tT_in (i := 624) (by decide +kernel) (by decide +kernel)
theorem m_625 : (.fieldLink RX7 117 "WordKinModel" "length" "I" : Cond) ∈ tT := tT_in (i := 625) (by decide +kernel) (by decide +kernel)
theorem m_626 : (.fieldLink RX7 13 "WordKinModel" "now" "[I" : Cond) ∈ tT := tT_in (i := 626) (by decide +kernel) (by decide +kernel)
theorem m_627 : (.fieldLink RX7 16 "WordKinModel" "trial" "[I" : Cond) ∈ tT := tT_in (i := 627) (by decide +kernel) (by decide +kernel)
theorem m_628 : (.fieldLink RX7 19 "WordKinModel" "diary" "[I" : Cond) ∈ tT := tT_in (i := 628) (by decide +kernel) (by decide +kernel)
theorem m_629 : (.fieldLink RX7 167 "WordKinModel" "doings" "I" : Cond) ∈ tT := tT_in (i := 629) (by decide +kernel) (by decide +kernel)
theorem m_630 : (.fieldLink RX7 204 "WordKinModel" "next" "I" : Cond) ∈ tT := tT_in (i := 630) (by decide +kernel) (by decide +kernel)
theorem m_631 : (.fieldLink RX7 22 "WordKinModel" "kept" "[I" : Cond) ∈ tT := tT_in (i := 631) (by decide +kernel) (by decide +kernel)
theorem m_632 : (.fieldLink RX7 25 "WordKinModel" "isKept" "[Z" : Cond) ∈ tT := tT_in (i := 632) (by decide +kernel) (by decide +kernel)
theorem m_633 : (.fieldLink RX7 29 "WordKinModel" "rootWord" "[I" : Cond) ∈ tT := tT_in (i := 633) (by decide +kernel) (by decide +kernel)
theorem m_634 : (.fieldLink RX7 32 "WordKinModel" "endWord" "[I" : Cond) ∈ tT := tT_in (i := 634) (by decide +kernel) (by decide +kernel)
theorem m_635 : (.fieldLink RX7 109 "WordKinModel" "roots" "I" : Cond) ∈ tT := tT_in (i := 635) (by decide +kernel) (by decide +kernel)
theorem m_636 : (.fieldLink RX7 112 "WordKinModel" "endings" "I" : Cond) ∈ tT := tT_in (i := 636) (by decide +kernel) (by decide +kernel)
theorem m_637 : (.fieldLink RX7 101 "WordKinModel" "changes" "I" : Cond) ∈ tT := tT_in (i := 637) (by decide +kernel) (by decide +kernel)
theorem m_638 : (.fieldLink RX7 35 "WordKinModel" "readRoot" "[I" : Cond) ∈ tT := tT_in (i := 638) (by decide +kernel) (by decide +kernel)
theorem m_639 : (.fieldLink RX7 38 "WordKinModel" "readEnd" "[I" : Cond) ∈ tT := tT_in (i := 639) (by decide +kernel) (by decide +kernel)
theorem m_640 : (.fieldLink RX7 41 "WordKinModel" "readSign" "[I" : Cond) ∈ tT := tT_in (i := 640) (by decide +kernel) (by decide +kernel)
theorem m_641 : (.fieldLink RX7 120 "WordKinModel" "readRoots" "I" : Cond) ∈ tT := tT_in (i := 641) (by decide +kernel) (by decide +kernel)
theorem m_642 : (.fieldLink RX7 123 "WordKinModel" "readEnds" "I" : Cond) ∈ tT := tT_in (i := 642) (by decide +kernel) (by decide +kernel)
theorem m_643 : (.fieldLink RX7 126 "WordKinModel" "readChanges" "I" : Cond) ∈ tT := tT_in (i := 643) (by decide +kernel) (by decide +kernel)
theorem m_644 : (.fieldLink RX7 137 "WordKinModel" "parts" "I" : Cond) ∈ tT := tT_in (i := 644) (by decide +kernel) (by decide +kernel)
theorem m_645 : (.fieldLink RX7 146 "WordKinModel" "faultPart" "I" : Cond) ∈ tT := tT_in (i := 645) (by decide +kernel) (by decide +kernel)
theorem m_646 : (.fieldLink RX7 44 "WordKinModel" "seenEnding" "[I" : Cond) ∈ tT := tT_in (i := 646) (by decide +kernel) (by decide +kernel)
theorem m_647 : (.fieldLink RX7 47 "WordKinModel" "seenAt" "[I" : Cond) ∈ tT := tT_in (i := 647) (by decide +kernel) (by decide +kernel)
theorem m_648 : (.fieldLink RX7 50 "WordKinModel" "seenLetter" "[I" : Cond) ∈ tT := tT_in (i := 648) (by decide +kernel) (by decide +kernel)
theorem m_649 : (.fieldLink RX7 53 "WordKinModel" "seenWas" "[I" : Cond) ∈ tT := tT_in (i := 649) (by decide +kernel) (by decide +kernel)
theorem m_650 : (.fieldLink RX7 187 "WordKinModel" "seen" "I" : Cond) ∈ tT := tT_in (i := 650) (by decide +kernel) (by decide +kernel)
theorem m_651 : (.fieldLink RX7 267 "WordKinModel" "seed" "J" : Cond) ∈ tT := tT_in (i := 651) (by decide +kernel) (by decide +kernel)
theorem m_652 : (.fieldLink RX7 56 "WordKinModel" "words" "[I" : Cond) ∈ tT := tT_in (i := 652) (by decide +kernel) (by decide +kernel)
theorem m_653 : (.fieldLink RX7 59 "WordKinModel" "worth" "[I" : Cond) ∈ tT := tT_in (i := 653) (by decide +kernel) (by decide +kernel)
theorem m_715 : (.methodLink RL 17 yX7_write : Cond) ∈ tT := tT_in (i := 715) (by decide +kernel) (by decide +kernel)
theorem m_716 : (.instanceMethod yX7_write : Cond) ∈ tT := tT_in (i := 716) (by decide +kernel) (by decide +kernel)
theorem m_717 : (.selects RX7 yX7_write yX7_write : Cond) ∈ tT := tT_in (i := 717) (by decide +kernel) (by decide +kernel)
theorem m_718 : (.code yX7_write cX7_write 2 (some .int) : Cond) ∈ tT := tT_in (i := 718) (by decide +kernel) (by decide +kernel)
theorem m_719 : (.constantLong RX7 115 255 : Cond) ∈ tT := tT_in (i := 719) (by decide +kernel) (by decide +kernel)
theorem m_720 : (.methodLink RX7 78 yX7_in : Cond) ∈ tT := tT_in (i := 720) (by decide +kernel) (by decide +kernel)
theorem m_721 : (.static yX7_in : Cond) ∈ tT := tT_in (i := 721) (by decide +kernel) (by decide +kernel)
theorem m_722 : (.code yX7_in cX7_in 6 (some .boolean) : Cond) ∈ tT := tT_in (i := 722) (by decide +kernel) (by decide +kernel)
theorem m_723 : (.methodLink RL 22 yX7_wipe : Cond) ∈ tT := tT_in (i := 723) (by decide +kernel) (by decide +kernel)
theorem m_724 : (.instanceMethod yX7_wipe : Cond) ∈ tT := tT_in (i := 724) (by decide +kernel) (by decide +kernel)
theorem m_725 : (.selects RX7 yX7_wipe yX7_wipe : Cond) ∈ tT := tT_in (i := 725) (by decide +kernel) (by decide +kernel)
theorem m_726 : (.code yX7_wipe cX7_wipe 2 (some .int) : Cond) ∈ tT := tT_in (i := 726) (by decide +kernel) (by decide +kernel)
theorem m_727 : (.methodLink RL 26 yX7_fault : Cond) ∈ tT := tT_in (i := 727) (by decide +kernel) (by decide +kernel)
theorem m_728 : (.instanceMethod yX7_fault : Cond) ∈ tT := tT_in (i := 728) (by decide +kernel) (by decide +kernel)
theorem m_729 : (.selects RX7 yX7_fault yX7_fault : Cond) ∈ tT := tT_in (i := 729) (by decide +kernel) (by decide +kernel)
theorem m_730 : (.code yX7_fault cX7_fault 3 (some .int) : Cond) ∈ tT := tT_in (i := 730) (by decide +kernel) (by decide +kernel)
theorem m_731 : (.methodLink RX7 163 yX7_readText : Cond) ∈ tT := tT_in (i := 731) (by decide +kernel) (by decide +kernel)
theorem m_733 : (.instanceMethod yX7_readText : Cond) ∈ tT := tT_in (i := 733) (by decide +kernel) (by decide +kernel)
theorem m_734 : (.code yX7_readText cX7_readText 7 (some .int) : Cond) ∈ tT := tT_in (i := 734) (by decide +kernel) (by decide +kernel)
theorem m_735 : (.methodLink RX7 149 yX7_mayEnd : Cond) ∈ tT := tT_in (i := 735) (by decide +kernel) (by decide +kernel)
theorem m_736 : (.static yX7_mayEnd : Cond) ∈ tT := tT_in (i := 736) (by decide +kernel) (by decide +kernel)
theorem m_737 : (.code yX7_mayEnd cX7_mayEnd 2 (some .boolean) : Cond) ∈ tT := tT_in (i := 737) (by decide +kernel) (by decide +kernel)
theorem m_738 : (.methodLink RX7 152 yX7_begun : Cond) ∈ tT := tT_in (i := 738) (by decide +kernel) (by decide +kernel)
theorem m_740 : (.instanceMethod yX7_begun : Cond) ∈ tT := tT_in (i := 740) (by decide +kernel) (by decide +kernel)
theorem m_741 : (.code yX7_begun cX7_begun 2 (some .int) : Cond) ∈ tT := tT_in (i := 741) (by decide +kernel) (by decide +kernel)
theorem m_742 : (.methodLink RX7 155 yX7_begin : Cond) ∈ tT := tT_in (i := 742) (by decide +kernel) (by decide +kernel)
theorem m_744 : (.instanceMethod yX7_begin : Cond) ∈ tT := tT_in (i := 744) (by decide +kernel) (by decide +kernel)
theorem m_745 : (.code yX7_begin cX7_begin 2 none : Cond) ∈ tT := tT_in (i := 745) (by decide +kernel) (by decide +kernel)
theorem m_746 : (.methodLink RX7 159 yX7_take : Cond) ∈ tT := tT_in (i := 746) (by decide +kernel) (by decide +kernel)
theorem m_748 : (.instanceMethod yX7_take : Cond) ∈ tT := tT_in (i := 748) (by decide +kernel) (by decide +kernel)
theorem m_749 : (.code yX7_take cX7_take 5 (some .boolean) : Cond) ∈ tT := tT_in (i := 749) (by decide +kernel) (by decide +kernel)
theorem m_750 : (.methodLink RX7 140 yX7_mostOf : Cond) ∈ tT := tT_in (i := 750) (by decide +kernel) (by decide +kernel)
theorem m_751 : (.static yX7_mostOf : Cond) ∈ tT := tT_in (i := 751) (by decide +kernel) (by decide +kernel)
theorem m_752 : (.code yX7_mostOf cX7_mostOf 1 (some .int) : Cond) ∈ tT := tT_in (i := 752) (by decide +kernel) (by decide +kernel)
theorem m_753 : (.methodLink RX7 143 yX7_signOf : Cond) ∈ tT := tT_in (i := 753) (by decide +kernel) (by decide +kernel)
theorem m_754 : (.static yX7_signOf : Cond) ∈ tT := tT_in (i := 754) (by decide +kernel) (by decide +kernel)
theorem m_755 : (.code yX7_signOf cX7_signOf 2 (some .int) : Cond) ∈ tT := tT_in (i := 755) (by decide +kernel) (by decide +kernel)
theorem m_756 : (.methodLink RX7 133 yX7_isLetter : Cond) ∈ tT := tT_in (i := 756) (by decide +kernel) (by decide +kernel)
theorem m_757 : (.static yX7_isLetter : Cond) ∈ tT := tT_in (i := 757) (by decide +kernel) (by decide +kernel)
theorem m_758 : (.code yX7_isLetter cX7_isLetter 1 (some .boolean) : Cond) ∈ tT := tT_in (i := 758) (by decide +kernel) (by decide +kernel)
theorem m_759 : (.constantLong RX7 129 97 : Cond) ∈ tT := tT_in (i := 759) (by decide +kernel) (by decide +kernel)
theorem m_760 : (.constantLong RX7 131 101 : Cond) ∈ tT := tT_in (i := 760) (by decide +kernel) (by decide +kernel)
theorem m_761 : (.methodLink RL 30 yX7_list : Cond) ∈ tT := tT_in (i := 761) (by decide +kernel) (by decide +kernel)
theorem m_762 : (.instanceMethod yX7_list : Cond) ∈ tT := tT_in (i := 762) (by decide +kernel) (by decide +kernel)
theorem m_763 : (.selects RX7 yX7_list yX7_list : Cond) ∈ tT := tT_in (i := 763) (by decide +kernel) (by decide +kernel)
theorem m_764 : (.code yX7_list cX7_list 2 (some .int) : Cond) ∈ tT := tT_in (i := 764) (by decide +kernel) (by decide +kernel)
theorem m_765 : (.methodLink RL 34 yX7_about : Cond) ∈ tT := tT_in (i := 765) (by decide +kernel) (by decide +kernel)
theorem m_766 : (.instanceMethod yX7_about : Cond) ∈ tT := tT_in (i := 766) (by decide +kernel) (by decide +kernel)
theorem m_767 : (.selects RX7 yX7_about yX7_about : Cond) ∈ tT := tT_in (i := 767) (by decide +kernel) (by decide +kernel)
theorem m_768 : (.code yX7_about cX7_about 2 (some .int) : Cond) ∈ tT := tT_in (i := 768) (by decide +kernel) (by decide +kernel)
theorem m_769 : (.methodLink RX7 173 yX7_unlike : Cond) ∈ tT := tT_in (i := 769) (by decide +kernel) (by decide +kernel)
theorem m_771 : (.instanceMethod yX7_unlike : Cond) ∈ tT := tT_in (i := 771) (by decide +kernel) (by decide +kernel)
theorem m_772 : (.code yX7_unlike cX7_unlike 8 (some .int) : Cond) ∈ tT := tT_in (i := 772) (by decide +kernel) (by decide +kernel)
theorem m_773 : (.methodLink RX7 170 yX7_madeBy : Cond) ∈ tT := tT_in (i := 773) (by decide +kernel) (by decide +kernel)
theorem m_775 : (.instanceMethod yX7_madeBy : Cond) ∈ tT := tT_in (i := 775) (by decide +kernel) (by decide +kernel)
theorem m_776 : (.code yX7_madeBy cX7_madeBy 5 (some .int) : Cond) ∈ tT := tT_in (i := 776) (by decide +kernel) (by decide +kernel)
theorem m_777 : (.methodLink RX7 98 yX7_raw : Cond) ∈ tT := tT_in (i := 777) (by decide +kernel) (by decide +kernel)
theorem m_779 : (.instanceMethod yX7_raw : Cond) ∈ tT := tT_in (i := 779) (by decide +kernel) (by decide +kernel)
theorem m_780 : (.code yX7_raw cX7_raw 3 (some .int) : Cond) ∈ tT := tT_in (i := 780) (by decide +kernel) (by decide +kernel)
theorem m_781 : (.methodLink RX7 95 yX7_join : Cond) ∈ tT := tT_in (i := 781) (by decide +kernel) (by decide +kernel)
theorem m_782 : (.static yX7_join : Cond) ∈ tT := tT_in (i := 782) (by decide +kernel) (by decide +kernel)
theorem m_783 : (.code yX7_join cX7_join 2 (some .int) : Cond) ∈ tT := tT_in (i := 783) (by decide +kernel) (by decide +kernel)
theorem m_784 : (.methodLink RX7 69 yX7_size : Cond) ∈ tT := tT_in (i := 784) (by decide +kernel) (by decide +kernel)
theorem m_785 : (.static yX7_size : Cond) ∈ tT := tT_in (i := 785) (by decide +kernel) (by decide +kernel)
theorem m_786 : (.code yX7_size cX7_size 3 (some .int) : Cond) ∈ tT := tT_in (i := 786) (by decide +kernel) (by decide +kernel)
theorem m_787 : (.methodLink RX7 73 yX7_power : Cond) ∈ tT := tT_in (i := 787) (by decide +kernel) (by decide +kernel)
theorem m_788 : (.static yX7_power : Cond) ∈ tT := tT_in (i := 788) (by decide +kernel) (by decide +kernel)
theorem m_789 : (.code yX7_power cX7_power 4 (some .int) : Cond) ∈ tT := tT_in (i := 789) (by decide +kernel) (by decide +kernel)
theorem m_790 : (.methodLink RX7 105 yX7_behindAll : Cond) ∈ tT := tT_in (i := 790) (by decide +kernel) (by decide +kernel)
theorem m_791 : (.static yX7_behindAll : Cond) ∈ tT := tT_in (i := 791) (by decide +kernel) (by decide +kernel)
theorem m_792 : (.code yX7_behindAll cX7_behindAll 6 (some .int) : Cond) ∈ tT := tT_in (i := 792) (by decide +kernel) (by decide +kernel)
theorem m_793 : (.methodLink RX7 88 yX7_has : Cond) ∈ tT := tT_in (i := 793) (by decide +kernel) (by decide +kernel)
theorem m_794 : (.static yX7_has : Cond) ∈ tT := tT_in (i := 794) (by decide +kernel) (by decide +kernel)
theorem m_795 : (.code yX7_has cX7_has 2 (some .boolean) : Cond) ∈ tT := tT_in (i := 795) (by decide +kernel) (by decide +kernel)
theorem m_796 : (.methodLink RX7 91 yX7_changed : Cond) ∈ tT := tT_in (i := 796) (by decide +kernel) (by decide +kernel)
theorem m_797 : (.static yX7_changed : Cond) ∈ tT := tT_in (i := 797) (by decide +kernel) (by decide +kernel)
theorem m_798 : (.code yX7_changed cX7_changed 11 (some .int) : Cond) ∈ tT := tT_in (i := 798) (by decide +kernel) (by decide +kernel)
theorem m_799 : (.methodLink RX7 84 yX7_fits : Cond) ∈ tT := tT_in (i := 799) (by decide +kernel) (by decide +kernel)
theorem m_800 : (.static yX7_fits : Cond) ∈ tT := tT_in (i := 800) (by decide +kernel) (by decide +kernel)
theorem m_801 : (.code yX7_fits cX7_fits 2 (some .boolean) : Cond) ∈ tT := tT_in (i := 801) (by decide +kernel) (by decide +kernel)
theorem m_802 : (.methodLink RX7 177 yX7_active : Cond) ∈ tT := tT_in (i := 802) (by decide +kernel) (by decide +kernel)
theorem m_804 : (.instanceMethod yX7_active : Cond) ∈ tT := tT_in (i := 804) (by decide +kernel) (by decide +kernel)
theorem m_805 : (.code yX7_active cX7_active 7 (some .int) : Cond) ∈ tT := tT_in (i := 805) (by decide +kernel) (by decide +kernel)
theorem m_806 : (.methodLink RX7 181 yX7_exceptions : Cond) ∈ tT := tT_in (i := 806) (by decide +kernel) (by decide +kernel)
theorem m_808 : (.instanceMethod yX7_exceptions : Cond) ∈ tT := tT_in (i := 808) (by decide +kernel) (by decide +kernel)
theorem m_809 : (.code yX7_exceptions cX7_exceptions 6 (some .int) : Cond) ∈ tT := tT_in (i := 809) (by decide +kernel) (by decide +kernel)
theorem m_810 : (.methodLink RX7 184 yX7_manyForms : Cond) ∈ tT := tT_in (i := 810) (by decide +kernel) (by decide +kernel)
theorem m_812 : (.instanceMethod yX7_manyForms : Cond) ∈ tT := tT_in (i := 812) (by decide +kernel) (by decide +kernel)
theorem m_813 : (.code yX7_manyForms cX7_manyForms 3 (some .int) : Cond) ∈ tT := tT_in (i := 813) (by decide +kernel) (by decide +kernel)
theorem m_814 : (.methodLink RL 39 yX7_part : Cond) ∈ tT := tT_in (i := 814) (by decide +kernel) (by decide +kernel)
theorem m_815 : (.instanceMethod yX7_part : Cond) ∈ tT := tT_in (i := 815) (by decide +kernel) (by decide +kernel)
theorem m_816 : (.selects RX7 yX7_part yX7_part : Cond) ∈ tT := tT_in (i := 816) (by decide +kernel) (by decide +kernel)
theorem m_817 : (.code yX7_part cX7_part 3 (some .int) : Cond) ∈ tT := tT_in (i := 817) (by decide +kernel) (by decide +kernel)
theorem m_818 : (.methodLink RX7 190 yX7_isRoot : Cond) ∈ tT := tT_in (i := 818) (by decide +kernel) (by decide +kernel)
theorem m_820 : (.instanceMethod yX7_isRoot : Cond) ∈ tT := tT_in (i := 820) (by decide +kernel) (by decide +kernel)
theorem m_821 : (.code yX7_isRoot cX7_isRoot 2 (some .boolean) : Cond) ∈ tT := tT_in (i := 821) (by decide +kernel) (by decide +kernel)
theorem m_822 : (.methodLink RX7 193 yX7_isEnding : Cond) ∈ tT := tT_in (i := 822) (by decide +kernel) (by decide +kernel)
theorem m_824 : (.instanceMethod yX7_isEnding : Cond) ∈ tT := tT_in (i := 824) (by decide +kernel) (by decide +kernel)
theorem m_825 : (.code yX7_isEnding cX7_isEnding 2 (some .boolean) : Cond) ∈ tT := tT_in (i := 825) (by decide +kernel) (by decide +kernel)
theorem m_826 : (.methodLink RL 43 yX7_sign : Cond) ∈ tT := tT_in (i := 826) (by decide +kernel) (by decide +kernel)
theorem m_827 : (.instanceMethod yX7_sign : Cond) ∈ tT := tT_in (i := 827) (by decide +kernel) (by decide +kernel)
theorem m_828 : (.selects RX7 yX7_sign yX7_sign : Cond) ∈ tT := tT_in (i := 828) (by decide +kernel) (by decide +kernel)
theorem m_829 : (.code yX7_sign cX7_sign 3 (some .int) : Cond) ∈ tT := tT_in (i := 829) (by decide +kernel) (by decide +kernel)
theorem m_830 : (.methodLink RX7 196 yX7_isChange : Cond) ∈ tT := tT_in (i := 830) (by decide +kernel) (by decide +kernel)
theorem m_832 : (.instanceMethod yX7_isChange : Cond) ∈ tT := tT_in (i := 832) (by decide +kernel) (by decide +kernel)
theorem m_833 : (.code yX7_isChange cX7_isChange 2 (some .boolean) : Cond) ∈ tT := tT_in (i := 833) (by decide +kernel) (by decide +kernel)
theorem m_834 : (.constantLong RX7 199 3 : Cond) ∈ tT := tT_in (i := 834) (by decide +kernel) (by decide +kernel)
theorem m_835 : (.methodLink RL 47 yX7_order : Cond) ∈ tT := tT_in (i := 835) (by decide +kernel) (by decide +kernel)
theorem m_836 : (.instanceMethod yX7_order : Cond) ∈ tT := tT_in (i := 836) (by decide +kernel) (by decide +kernel)
theorem m_837 : (.selects RX7 yX7_order yX7_order : Cond) ∈ tT := tT_in (i := 837) (by decide +kernel) (by decide +kernel)
theorem m_838 : (.code yX7_order cX7_order 2 (some .int) : Cond) ∈ tT := tT_in (i := 838) (by decide +kernel) (by decide +kernel)
theorem m_839 : (.methodLink RL 51 yX7_made : Cond) ∈ tT := tT_in (i := 839) (by decide +kernel) (by decide +kernel)
theorem m_840 : (.instanceMethod yX7_made : Cond) ∈ tT := tT_in (i := 840) (by decide +kernel) (by decide +kernel)
theorem m_841 : (.selects RX7 yX7_made yX7_made : Cond) ∈ tT := tT_in (i := 841) (by decide +kernel) (by decide +kernel)
theorem m_842 : (.code yX7_made cX7_made 3 (some .int) : Cond) ∈ tT := tT_in (i := 842) (by decide +kernel) (by decide +kernel)
theorem m_843 : (.methodLink RL 56 yX7_step : Cond) ∈ tT := tT_in (i := 843) (by decide +kernel) (by decide +kernel)
theorem m_844 : (.instanceMethod yX7_step : Cond) ∈ tT := tT_in (i := 844) (by decide +kernel) (by decide +kernel)
theorem m_845 : (.selects RX7 yX7_step yX7_step : Cond) ∈ tT := tT_in (i := 845) (by decide +kernel) (by decide +kernel)
theorem m_846 : (.code yX7_step cX7_step 4 (some .int) : Cond) ∈ tT := tT_in (i := 846) (by decide +kernel) (by decide +kernel)
theorem m_847 : (.methodLink RL 60 yX7_apart : Cond) ∈ tT := tT_in (i := 847) (by decide +kernel) (by decide +kernel)
theorem m_848 : (.instanceMethod yX7_apart : Cond) ∈ tT := tT_in (i := 848) (by decide +kernel) (by decide +kernel)
theorem m_849 : (.selects RX7 yX7_apart yX7_apart : Cond) ∈ tT := tT_in (i := 849) (by decide +kernel) (by decide +kernel)
theorem m_850 : (.code yX7_apart cX7_apart 8 (some .int) : Cond) ∈ tT := tT_in (i := 850) (by decide +kernel) (by decide +kernel)
theorem m_851 : (.methodLink RX7 201 yX7_isWord : Cond) ∈ tT := tT_in (i := 851) (by decide +kernel) (by decide +kernel)
theorem m_852 : (.static yX7_isWord : Cond) ∈ tT := tT_in (i := 852) (by decide +kernel) (by decide +kernel)
theorem m_853 : (.code yX7_isWord cX7_isWord 3 (some .boolean) : Cond) ∈ tT := tT_in (i := 853) (by decide +kernel) (by decide +kernel)
theorem m_854 : (.constantLong RX7 76 555555 : Cond) ∈ tT := tT_in (i := 854) (by decide +kernel) (by decide +kernel)
theorem m_855 : (.constantLong RX7 82 5 : Cond) ∈ tT := tT_in (i := 855) (by decide +kernel) (by decide +kernel)
theorem m_856 : (.methodLink RL 64 yX7_form : Cond) ∈ tT := tT_in (i := 856) (by decide +kernel) (by decide +kernel)
theorem m_857 : (.instanceMethod yX7_form : Cond) ∈ tT := tT_in (i := 857) (by decide +kernel) (by decide +kernel)
theorem m_858 : (.selects RX7 yX7_form yX7_form : Cond) ∈ tT := tT_in (i := 858) (by decide +kernel) (by decide +kernel)
theorem m_859 : (.code yX7_form cX7_form 3 (some .int) : Cond) ∈ tT := tT_in (i := 859) (by decide +kernel) (by decide +kernel)
theorem m_860 : (.methodLink RL 68 yX7_swap : Cond) ∈ tT := tT_in (i := 860) (by decide +kernel) (by decide +kernel)
theorem m_861 : (.instanceMethod yX7_swap : Cond) ∈ tT := tT_in (i := 861) (by decide +kernel) (by decide +kernel)
theorem m_862 : (.selects RX7 yX7_swap yX7_swap : Cond) ∈ tT := tT_in (i := 862) (by decide +kernel) (by decide +kernel)
theorem m_863 : (.code yX7_swap cX7_swap 3 (some .int) : Cond) ∈ tT := tT_in (i := 863) (by decide +kernel) (by decide +kernel)
theorem m_864 : (.methodLink RX7 209 yX7_noteDoing : Cond) ∈ tT := tT_in (i := 864) (by decide +kernel) (by decide +kernel)
theorem m_866 : (.instanceMethod yX7_noteDoing : Cond) ∈ tT := tT_in (i := 866) (by decide +kernel) (by decide +kernel)
theorem m_867 : (.code yX7_noteDoing cX7_noteDoing 2 none : Cond) ∈ tT := tT_in (i := 867) (by decide +kernel) (by decide +kernel)
theorem m_868 : (.methodLink RX7 212 yX7_swapOn : Cond) ∈ tT := tT_in (i := 868) (by decide +kernel) (by decide +kernel)
theorem m_869 : (.static yX7_swapOn : Cond) ∈ tT := tT_in (i := 869) (by decide +kernel) (by decide +kernel)
theorem m_870 : (.code yX7_swapOn cX7_swapOn 4 none : Cond) ∈ tT := tT_in (i := 870) (by decide +kernel) (by decide +kernel)
theorem m_871 : (.methodLink RL 72 yX7_resign : Cond) ∈ tT := tT_in (i := 871) (by decide +kernel) (by decide +kernel)
theorem m_872 : (.instanceMethod yX7_resign : Cond) ∈ tT := tT_in (i := 872) (by decide +kernel) (by decide +kernel)
theorem m_873 : (.selects RX7 yX7_resign yX7_resign : Cond) ∈ tT := tT_in (i := 873) (by decide +kernel) (by decide +kernel)
theorem m_874 : (.code yX7_resign cX7_resign 5 (some .int) : Cond) ∈ tT := tT_in (i := 874) (by decide +kernel) (by decide +kernel)
theorem m_875 : (.methodLink RX7 216 yX7_isSign : Cond) ∈ tT := tT_in (i := 875) (by decide +kernel) (by decide +kernel)
theorem m_876 : (.static yX7_isSign : Cond) ∈ tT := tT_in (i := 876) (by decide +kernel) (by decide +kernel)
theorem m_877 : (.code yX7_isSign cX7_isSign 2 (some .boolean) : Cond) ∈ tT := tT_in (i := 877) (by decide +kernel) (by decide +kernel)
theorem m_878 : (.constantLong RX7 207 7 : Cond) ∈ tT := tT_in (i := 878) (by decide +kernel) (by decide +kernel)
theorem m_879 : (.methodLink RL 76 yX7_tell : Cond) ∈ tT := tT_in (i := 879) (by decide +kernel) (by decide +kernel)
theorem m_880 : (.instanceMethod yX7_tell : Cond) ∈ tT := tT_in (i := 880) (by decide +kernel) (by decide +kernel)
theorem m_881 : (.selects RX7 yX7_tell yX7_tell : Cond) ∈ tT := tT_in (i := 881) (by decide +kernel) (by decide +kernel)
theorem m_882 : (.code yX7_tell cX7_tell 4 (some .int) : Cond) ∈ tT := tT_in (i := 882) (by decide +kernel) (by decide +kernel)
theorem m_883 : (.methodLink RL 80 yX7_undo : Cond) ∈ tT := tT_in (i := 883) (by decide +kernel) (by decide +kernel)
theorem m_884 : (.instanceMethod yX7_undo : Cond) ∈ tT := tT_in (i := 884) (by decide +kernel) (by decide +kernel)
theorem m_885 : (.selects RX7 yX7_undo yX7_undo : Cond) ∈ tT := tT_in (i := 885) (by decide +kernel) (by decide +kernel)
theorem m_886 : (.code yX7_undo cX7_undo 2 (some .int) : Cond) ∈ tT := tT_in (i := 886) (by decide +kernel) (by decide +kernel)
theorem m_887 : (.methodLink RL 84 yX7_cross : Cond) ∈ tT := tT_in (i := 887) (by decide +kernel) (by decide +kernel)
theorem m_888 : (.instanceMethod yX7_cross : Cond) ∈ tT := tT_in (i := 888) (by decide +kernel) (by decide +kernel)
theorem m_889 : (.selects RX7 yX7_cross yX7_cross : Cond) ∈ tT := tT_in (i := 889) (by decide +kernel) (by decide +kernel)
theorem m_890 : (.code yX7_cross cX7_cross 3 (some .int) : Cond) ∈ tT := tT_in (i := 890) (by decide +kernel) (by decide +kernel)
theorem m_891 : (.methodLink RX7 219 yX7_areCrossing : Cond) ∈ tT := tT_in (i := 891) (by decide +kernel) (by decide +kernel)
theorem m_893 : (.instanceMethod yX7_areCrossing : Cond) ∈ tT := tT_in (i := 893) (by decide +kernel) (by decide +kernel)
theorem m_894 : (.code yX7_areCrossing cX7_areCrossing 9 (some .boolean) : Cond) ∈ tT := tT_in (i := 894) (by decide +kernel) (by decide +kernel)
theorem m_895 : (.methodLink RL 88 yX7_best : Cond) ∈ tT := tT_in (i := 895) (by decide +kernel) (by decide +kernel)
theorem m_896 : (.instanceMethod yX7_best : Cond) ∈ tT := tT_in (i := 896) (by decide +kernel) (by decide +kernel)
theorem m_897 : (.selects RX7 yX7_best yX7_best : Cond) ∈ tT := tT_in (i := 897) (by decide +kernel) (by decide +kernel)
theorem m_898 : (.code yX7_best cX7_best 8 (some .int) : Cond) ∈ tT := tT_in (i := 898) (by decide +kernel) (by decide +kernel)
theorem m_899 : (.constantLong RX7 226 2 : Cond) ∈ tT := tT_in (i := 899) (by decide +kernel) (by decide +kernel)
theorem m_900 : (.methodLink RX7 228 yX7_layTrial : Cond) ∈ tT := tT_in (i := 900) (by decide +kernel) (by decide +kernel)
theorem m_902 : (.instanceMethod yX7_layTrial : Cond) ∈ tT := tT_in (i := 902) (by decide +kernel) (by decide +kernel)
theorem m_903 : (.code yX7_layTrial cX7_layTrial 2 none : Cond) ∈ tT := tT_in (i := 903) (by decide +kernel) (by decide +kernel)
theorem m_904 : (.methodLink RX7 231 yX7_isOrder : Cond) ∈ tT := tT_in (i := 904) (by decide +kernel) (by decide +kernel)
theorem m_906 : (.instanceMethod yX7_isOrder : Cond) ∈ tT := tT_in (i := 906) (by decide +kernel) (by decide +kernel)
theorem m_907 : (.code yX7_isOrder cX7_isOrder 4 (some .boolean) : Cond) ∈ tT := tT_in (i := 907) (by decide +kernel) (by decide +kernel)
theorem m_908 : (.methodLink RX7 223 yX7_changeAt : Cond) ∈ tT := tT_in (i := 908) (by decide +kernel) (by decide +kernel)
theorem m_910 : (.instanceMethod yX7_changeAt : Cond) ∈ tT := tT_in (i := 910) (by decide +kernel) (by decide +kernel)
theorem m_911 : (.code yX7_changeAt cX7_changeAt 3 (some .int) : Cond) ∈ tT := tT_in (i := 911) (by decide +kernel) (by decide +kernel)
theorem m_912 : (.methodLink RX7 234 yX7_figuresOf : Cond) ∈ tT := tT_in (i := 912) (by decide +kernel) (by decide +kernel)
theorem m_914 : (.instanceMethod yX7_figuresOf : Cond) ∈ tT := tT_in (i := 914) (by decide +kernel) (by decide +kernel)
theorem m_915 : (.code yX7_figuresOf cX7_figuresOf 4 (some .int) : Cond) ∈ tT := tT_in (i := 915) (by decide +kernel) (by decide +kernel)
theorem m_916 : (.methodLink RL 95 yX7_judge : Cond) ∈ tT := tT_in (i := 916) (by decide +kernel) (by decide +kernel)
theorem m_917 : (.instanceMethod yX7_judge : Cond) ∈ tT := tT_in (i := 917) (by decide +kernel) (by decide +kernel)
theorem m_918 : (.selects RX7 yX7_judge yX7_judge : Cond) ∈ tT := tT_in (i := 918) (by decide +kernel) (by decide +kernel)
theorem m_919 : (.code yX7_judge cX7_judge 6 (some .int) : Cond) ∈ tT := tT_in (i := 919) (by decide +kernel) (by decide +kernel)
theorem m_920 : (.constantLong RX7 239 4 : Cond) ∈ tT := tT_in (i := 920) (by decide +kernel) (by decide +kernel)
theorem m_921 : (.methodLink RX7 241 yX7_tenThousands : Cond) ∈ tT := tT_in (i := 921) (by decide +kernel) (by decide +kernel)
theorem m_922 : (.static yX7_tenThousands : Cond) ∈ tT := tT_in (i := 922) (by decide +kernel) (by decide +kernel)
theorem m_923 : (.code yX7_tenThousands cX7_tenThousands 4 (some .long) : Cond) ∈ tT := tT_in (i := 923) (by decide +kernel) (by decide +kernel)
theorem m_924 : (.constantLong RX7 237 10000 : Cond) ∈ tT := tT_in (i := 924) (by decide +kernel) (by decide +kernel)
theorem m_925 : (.methodLink RX7 245 yX7_judged : Cond) ∈ tT := tT_in (i := 925) (by decide +kernel) (by decide +kernel)
theorem m_927 : (.instanceMethod yX7_judged : Cond) ∈ tT := tT_in (i := 927) (by decide +kernel) (by decide +kernel)
theorem m_928 : (.code yX7_judged cX7_judged 5 (some .boolean) : Cond) ∈ tT := tT_in (i := 928) (by decide +kernel) (by decide +kernel)
theorem m_929 : (.methodLink RL 100 yX7_share : Cond) ∈ tT := tT_in (i := 929) (by decide +kernel) (by decide +kernel)
theorem m_930 : (.instanceMethod yX7_share : Cond) ∈ tT := tT_in (i := 930) (by decide +kernel) (by decide +kernel)
theorem m_931 : (.selects RX7 yX7_share yX7_share : Cond) ∈ tT := tT_in (i := 931) (by decide +kernel) (by decide +kernel)
theorem m_932 : (.code yX7_share cX7_share 7 (some .int) : Cond) ∈ tT := tT_in (i := 932) (by decide +kernel) (by decide +kernel)
theorem m_933 : (.methodLink RX7 249 yX7_factorial : Cond) ∈ tT := tT_in (i := 933) (by decide +kernel) (by decide +kernel)
theorem m_934 : (.static yX7_factorial : Cond) ∈ tT := tT_in (i := 934) (by decide +kernel) (by decide +kernel)
theorem m_935 : (.code yX7_factorial cX7_factorial 3 (some .int) : Cond) ∈ tT := tT_in (i := 935) (by decide +kernel) (by decide +kernel)
theorem m_936 : (.methodLink RX7 252 yX7_fraction : Cond) ∈ tT := tT_in (i := 936) (by decide +kernel) (by decide +kernel)
theorem m_937 : (.static yX7_fraction : Cond) ∈ tT := tT_in (i := 937) (by decide +kernel) (by decide +kernel)
theorem m_938 : (.code yX7_fraction cX7_fraction 4 (some .int) : Cond) ∈ tT := tT_in (i := 938) (by decide +kernel) (by decide +kernel)
theorem m_939 : (.methodLink RX7 65 yX7_divisor : Cond) ∈ tT := tT_in (i := 939) (by decide +kernel) (by decide +kernel)
theorem m_940 : (.static yX7_divisor : Cond) ∈ tT := tT_in (i := 940) (by decide +kernel) (by decide +kernel)
theorem m_941 : (.code yX7_divisor cX7_divisor 5 (some .int) : Cond) ∈ tT := tT_in (i := 941) (by decide +kernel) (by decide +kernel)
theorem m_942 : (.methodLink RL 105 yX7_see : Cond) ∈ tT := tT_in (i := 942) (by decide +kernel) (by decide +kernel)
theorem m_943 : (.instanceMethod yX7_see : Cond) ∈ tT := tT_in (i := 943) (by decide +kernel) (by decide +kernel)
theorem m_944 : (.selects RX7 yX7_see yX7_see : Cond) ∈ tT := tT_in (i := 944) (by decide +kernel) (by decide +kernel)
theorem m_945 : (.code yX7_see cX7_see 5 (some .int) : Cond) ∈ tT := tT_in (i := 945) (by decide +kernel) (by decide +kernel)
theorem m_946 : (.methodLink RL 109 yX7_unsee : Cond) ∈ tT := tT_in (i := 946) (by decide +kernel) (by decide +kernel)
theorem m_947 : (.instanceMethod yX7_unsee : Cond) ∈ tT := tT_in (i := 947) (by decide +kernel) (by decide +kernel)
theorem m_948 : (.selects RX7 yX7_unsee yX7_unsee : Cond) ∈ tT := tT_in (i := 948) (by decide +kernel) (by decide +kernel)
theorem m_949 : (.code yX7_unsee cX7_unsee 2 (some .int) : Cond) ∈ tT := tT_in (i := 949) (by decide +kernel) (by decide +kernel)
theorem m_950 : (.methodLink RL 113 yX7_which : Cond) ∈ tT := tT_in (i := 950) (by decide +kernel) (by decide +kernel)
theorem m_951 : (.instanceMethod yX7_which : Cond) ∈ tT := tT_in (i := 951) (by decide +kernel) (by decide +kernel)
theorem m_952 : (.selects RX7 yX7_which yX7_which : Cond) ∈ tT := tT_in (i := 952) (by decide +kernel) (by decide +kernel)
theorem m_953 : (.code yX7_which cX7_which 6 (some .int) : Cond) ∈ tT := tT_in (i := 953) (by decide +kernel) (by decide +kernel)
theorem m_954 : (.methodLink RX7 259 yX7_agrees : Cond) ∈ tT := tT_in (i := 954) (by decide +kernel) (by decide +kernel)
theorem m_956 : (.instanceMethod yX7_agrees : Cond) ∈ tT := tT_in (i := 956) (by decide +kernel) (by decide +kernel)
theorem m_957 : (.code yX7_agrees cX7_agrees 7 (some .boolean) : Cond) ∈ tT := tT_in (i := 957) (by decide +kernel) (by decide +kernel)
theorem m_958 : (.methodLink RX7 256 yX7_letterAt : Cond) ∈ tT := tT_in (i := 958) (by decide +kernel) (by decide +kernel)
theorem m_959 : (.static yX7_letterAt : Cond) ∈ tT := tT_in (i := 959) (by decide +kernel) (by decide +kernel)
theorem m_960 : (.code yX7_letterAt cX7_letterAt 3 (some .int) : Cond) ∈ tT := tT_in (i := 960) (by decide +kernel) (by decide +kernel)
theorem m_961 : (.methodLink RL 118 yX7_fails : Cond) ∈ tT := tT_in (i := 961) (by decide +kernel) (by decide +kernel)
theorem m_962 : (.instanceMethod yX7_fails : Cond) ∈ tT := tT_in (i := 962) (by decide +kernel) (by decide +kernel)
theorem m_963 : (.selects RX7 yX7_fails yX7_fails : Cond) ∈ tT := tT_in (i := 963) (by decide +kernel) (by decide +kernel)
theorem m_964 : (.code yX7_fails cX7_fails 10 (some .int) : Cond) ∈ tT := tT_in (i := 964) (by decide +kernel) (by decide +kernel)
theorem m_965 : (.constantLong RX7 262 10 : Cond) ∈ tT := tT_in (i := 965) (by decide +kernel) (by decide +kernel)
theorem m_966 : (.methodLink RX7 264 yX7_ones : Cond) ∈ tT := tT_in (i := 966) (by decide +kernel) (by decide +kernel)
theorem m_967 : (.static yX7_ones : Cond) ∈ tT := tT_in (i := 967) (by decide +kernel) (by decide +kernel)
theorem m_968 : (.code yX7_ones cX7_ones 3 (some .int) : Cond) ∈ tT := tT_in (i := 968) (by decide +kernel) (by decide +kernel)
theorem m_969 : (.methodLink RL 123 yX7_seed : Cond) ∈ tT := tT_in (i := 969) (by decide +kernel) (by decide +kernel)
theorem m_970 : (.instanceMethod yX7_seed : Cond) ∈ tT := tT_in (i := 970) (by decide +kernel) (by decide +kernel)
theorem m_971 : (.selects RX7 yX7_seed yX7_seed : Cond) ∈ tT := tT_in (i := 971) (by decide +kernel) (by decide +kernel)
theorem m_972 : (.code yX7_seed cX7_seed 5 (some .long) : Cond) ∈ tT := tT_in (i := 972) (by decide +kernel) (by decide +kernel)
theorem m_973 : (.methodLink RL 127 yX7_drawn : Cond) ∈ tT := tT_in (i := 973) (by decide +kernel) (by decide +kernel)
theorem m_974 : (.instanceMethod yX7_drawn : Cond) ∈ tT := tT_in (i := 974) (by decide +kernel) (by decide +kernel)
theorem m_975 : (.selects RX7 yX7_drawn yX7_drawn : Cond) ∈ tT := tT_in (i := 975) (by decide +kernel) (by decide +kernel)
theorem m_976 : (.code yX7_drawn cX7_drawn 8 (some .int) : Cond) ∈ tT := tT_in (i := 976) (by decide +kernel) (by decide +kernel)
theorem m_977 : (.constantLong RX7 271 20 : Cond) ∈ tT := tT_in (i := 977) (by decide +kernel) (by decide +kernel)
theorem m_978 : (.constantLong RX7 273 6364136223846793005 : Cond) ∈ tT := tT_in (i := 978) (by decide +kernel) (by decide +kernel)
theorem m_979 : (.constantLong RX7 275 1442695040888963407 : Cond) ∈ tT := tT_in (i := 979) (by decide +kernel) (by decide +kernel)
theorem m_980 : (.methodLink RL 131 yX7_keep : Cond) ∈ tT := tT_in (i := 980) (by decide +kernel) (by decide +kernel)
theorem m_981 : (.instanceMethod yX7_keep : Cond) ∈ tT := tT_in (i := 981) (by decide +kernel) (by decide +kernel)
theorem m_982 : (.selects RX7 yX7_keep yX7_keep : Cond) ∈ tT := tT_in (i := 982) (by decide +kernel) (by decide +kernel)
theorem m_983 : (.code yX7_keep cX7_keep 3 (some .int) : Cond) ∈ tT := tT_in (i := 983) (by decide +kernel) (by decide +kernel)
theorem m_984 : (.methodLink RL 135 yX7_again : Cond) ∈ tT := tT_in (i := 984) (by decide +kernel) (by decide +kernel)
theorem m_985 : (.instanceMethod yX7_again : Cond) ∈ tT := tT_in (i := 985) (by decide +kernel) (by decide +kernel)
theorem m_986 : (.selects RX7 yX7_again yX7_again : Cond) ∈ tT := tT_in (i := 986) (by decide +kernel) (by decide +kernel)
theorem m_987 : (.code yX7_again cX7_again 3 (some .int) : Cond) ∈ tT := tT_in (i := 987) (by decide +kernel) (by decide +kernel)
theorem m_988 : (.constantLong RL 89 4294967295 : Cond) ∈ tT := tT_in (i := 988) (by decide +kernel) (by decide +kernel)
def nestW : List Cond := [.methodLinkNest RX6 9 yX3_init RX6, .fieldLinkNest RX6 65 "WordKin$Text" "length" "I" RX6, .fieldLinkNest RX2 18 "WordKin$Text" "roots" "[I" RX6, .fieldLinkNest RX2 27 "WordKin$Text" "endings" "[I" RX6, .fieldLinkNest RX4 28 "WordKin$Text" "signs" "[I" RX6, .fieldLinkNest RX2 28 "WordKin$Text" "rootCount" "I" RX6, .fieldLinkNest RX2 33 "WordKin$Text" "endingCount" "I" RX6, .fieldLinkNest RX4 37 "WordKin$Text" "changeCount" "I" RX6, .fieldLinkNest RX6 88 "WordKin$Text" "partCount" "I" RX6, .fieldLinkNest RX6 72 "WordKin$Text" "faultPlace" "I" RX6, .fieldLinkNest RX6 75 "WordKin$Text" "faultPart" "I" RX6, .methodLinkNest RX6 18 yX2_init RX6, .fieldLinkNest RX6 121 "WordKin$Stock" "roots" "[I" RX6, .fieldLinkNest RX1 35 "WordKin$Stock" "endings" "[I" RX6, .fieldLinkNest RX6 128 "WordKin$Stock" "endings" "[I" RX6, .fieldLinkNest RX6 91 "WordKin$Stock" "rootCount" "I" RX6, .fieldLinkNest RX4 70 "WordKin$Stock" "rootCount" "I" RX6, .fieldLinkNest RX6 94 "WordKin$Stock" "endingCount" "I" RX6, .fieldLinkNest RX4 73 "WordKin$Stock" "endingCount" "I" RX6, .fieldLinkNest RX6 141 "WordKin$Ways" "line" "[I" RX6, .fieldLinkNest RX1 42 "WordKin$Ways" "changeCount" "I" RX6, .fieldLinkNest RX6 97 "WordKin$Ways" "changeCount" "I" RX6, .methodLinkNest RX6 45 yX0_init RX6, .fieldLinkNest RX6 85 "WordKin$Doings" "count" "I" RX6, .methodLinkNest RX6 52 yX1_init RX6, .fieldLinkNest RX6 117 "WordKin$Sightings" "count" "I" RX6, .methodLinkNest RX3 83 yX6_allowsSign RX6]
theorem n_56 : (.methodLinkNest RX6 9 yX3_init RX6 : Cond) ∈ nestW := List.mem_of_getElem? (i := 0) rfl
theorem n_62 : (.fieldLinkNest RX6 65 "WordKin$Text" "length" "I" RX6 : Cond) ∈ nestW := List.mem_of_getElem? (i := 1) rfl
theorem n_64 : (.fieldLinkNest RX2 18 "WordKin$Text" "roots" "[I" RX6 : Cond) ∈ nestW := List.mem_of_getElem? (i := 2) rfl
theorem n_66 : (.fieldLinkNest RX2 27 "WordKin$Text" "endings" "[I" RX6 : Cond) ∈ nestW := List.mem_of_getElem? (i := 3) rfl
theorem n_68 : (.fieldLinkNest RX4 28 "WordKin$Text" "signs" "[I" RX6 : Cond) ∈ nestW := List.mem_of_getElem? (i := 4) rfl
theorem n_69 : (.fieldLinkNest RX2 28 "WordKin$Text" "rootCount" "I" RX6 : Cond) ∈ nestW := List.mem_of_getElem? (i := 5) rfl
theorem n_71 : (.fieldLinkNest RX2 33 "WordKin$Text" "endingCount" "I" RX6 : Cond) ∈ nestW := List.mem_of_getElem? (i := 6) rfl
theorem n_73 : (.fieldLinkNest RX4 37 "WordKin$Text" "changeCount" "I" RX6 : Cond) ∈ nestW := List.mem_of_getElem? (i := 7) rfl
theorem n_76 : (.fieldLinkNest RX6 88 "WordKin$Text" "partCount" "I" RX6 : Cond) ∈ nestW := List.mem_of_getElem? (i := 8) rfl
theorem n_78 : (.fieldLinkNest RX6 72 "WordKin$Text" "faultPlace" "I" RX6 : Cond) ∈ nestW := List.mem_of_getElem? (i := 9) rfl
theorem n_80 : (.fieldLinkNest RX6 75 "WordKin$Text" "faultPart" "I" RX6 : Cond) ∈ nestW := List.mem_of_getElem? (i := 10) rfl
theorem n_113 : (.methodLinkNest RX6 18 yX2_init RX6 : Cond) ∈ nestW := List.mem_of_getElem? (i := 11) rfl
theorem n_118 : (.fieldLinkNest RX6 121 "WordKin$Stock" "roots" "[I" RX6 : Cond) ∈ nestW := List.mem_of_getElem? (i := 12) rfl
theorem n_120 : (.fieldLinkNest RX1 35 "WordKin$Stock" "endings" "[I" RX6 : Cond) ∈ nestW := List.mem_of_getElem? (i := 13) rfl
theorem n_121 : (.fieldLinkNest RX6 128 "WordKin$Stock" "endings" "[I" RX6 : Cond) ∈ nestW := List.mem_of_getElem? (i := 14) rfl
theorem n_123 : (.fieldLinkNest RX6 91 "WordKin$Stock" "rootCount" "I" RX6 : Cond) ∈ nestW := List.mem_of_getElem? (i := 15) rfl
theorem n_124 : (.fieldLinkNest RX4 70 "WordKin$Stock" "rootCount" "I" RX6 : Cond) ∈ nestW := List.mem_of_getElem? (i := 16) rfl
theorem n_126 : (.fieldLinkNest RX6 94 "WordKin$Stock" "endingCount" "I" RX6 : Cond) ∈ nestW := List.mem_of_getElem? (i := 17) rfl
theorem n_127 : (.fieldLinkNest RX4 73 "WordKin$Stock" "endingCount" "I" RX6 : Cond) ∈ nestW := List.mem_of_getElem? (i := 18) rfl
theorem n_146 : (.fieldLinkNest RX6 141 "WordKin$Ways" "line" "[I" RX6 : Cond) ∈ nestW := List.mem_of_getElem? (i := 19) rfl
theorem n_150 : (.fieldLinkNest RX1 42 "WordKin$Ways" "changeCount" "I" RX6 : Cond) ∈ nestW := List.mem_of_getElem? (i := 20) rfl
theorem n_151 : (.fieldLinkNest RX6 97 "WordKin$Ways" "changeCount" "I" RX6 : Cond) ∈ nestW := List.mem_of_getElem? (i := 21) rfl
theorem n_168 : (.methodLinkNest RX6 45 yX0_init RX6 : Cond) ∈ nestW := List.mem_of_getElem? (i := 22) rfl
theorem n_178 : (.fieldLinkNest RX6 85 "WordKin$Doings" "count" "I" RX6 : Cond) ∈ nestW := List.mem_of_getElem? (i := 23) rfl
theorem n_195 : (.methodLinkNest RX6 52 yX1_init RX6 : Cond) ∈ nestW := List.mem_of_getElem? (i := 24) rfl
theorem n_204 : (.fieldLinkNest RX6 117 "WordKin$Sightings" "count" "I" RX6 : Cond) ∈ nestW := List.mem_of_getElem? (i := 25) rfl
theorem n_294 : (.methodLinkNest RX3 83 yX6_allowsSign RX6 : Cond) ∈ nestW := List.mem_of_getElem? (i := 26) rfl
theorem nestW_in : ∀ w ∈ nestW, w ∈ lw_tbl := by
  intro w hw
  simp only [nestW, List.mem_cons, List.not_mem_nil, or_false] at hw
  rcases hw with rfl | rfl | rfl | rfl | rfl | rfl | rfl | rfl | rfl | rfl | rfl | rfl | rfl | rfl | rfl | rfl | rfl | rfl | rfl | rfl | rfl | rfl | rfl | rfl | rfl | rfl | rfl
  · exact List.mem_of_getElem? (i := 56) (by decide +kernel)
  · exact List.mem_of_getElem? (i := 62) (by decide +kernel)
  · exact List.mem_of_getElem? (i := 64) (by decide +kernel)
  · exact List.mem_of_getElem? (i := 66) (by decide +kernel)
  · exact List.mem_of_getElem? (i := 68) (by decide +kernel)
  · exact List.mem_of_getElem? (i := 69) (by decide +kernel)
  · exact List.mem_of_getElem? (i := 71) (by decide +kernel)
  · exact List.mem_of_getElem? (i := 73) (by decide +kernel)
  · exact List.mem_of_getElem? (i := 76) (by decide +kernel)
  · exact List.mem_of_getElem? (i := 78) (by decide +kernel)
  · exact List.mem_of_getElem? (i := 80) (by decide +kernel)
  · exact List.mem_of_getElem? (i := 113) (by decide +kernel)
  · exact List.mem_of_getElem? (i := 118) (by decide +kernel)
  · exact List.mem_of_getElem? (i := 120) (by decide +kernel)
  · exact List.mem_of_getElem? (i := 121) (by decide +kernel)
  · exact List.mem_of_getElem? (i := 123) (by decide +kernel)
  · exact List.mem_of_getElem? (i := 124) (by decide +kernel)
  · exact List.mem_of_getElem? (i := 126) (by decide +kernel)
  · exact List.mem_of_getElem? (i := 127) (by decide +kernel)
  · exact List.mem_of_getElem? (i := 146) (by decide +kernel)
  · exact List.mem_of_getElem? (i := 150) (by decide +kernel)
  · exact List.mem_of_getElem? (i := 151) (by decide +kernel)
  · exact List.mem_of_getElem? (i := 168) (by decide +kernel)
  · exact List.mem_of_getElem? (i := 178) (by decide +kernel)
  · exact List.mem_of_getElem? (i := 195) (by decide +kernel)
  · exact List.mem_of_getElem? (i := 204) (by decide +kernel)
  · exact List.mem_of_getElem? (i := 294) (by decide +kernel)
theorem i_X0 : ∀ w ∈ wsX00, w ∈ tT := by
  intro w hw
  obtain ⟨k, hk, rfl⟩ := List.mem_map.mp hw
  have hk : k < 6 := List.mem_range.mp hk
  match k, hk with
  | 0, _ => exact tT_in (i := 179) (by decide +kernel) (by decide +kernel)
  | 1, _ => exact tT_in (i := 181) (by decide +kernel) (by decide +kernel)
  | 2, _ => exact tT_in (i := 183) (by decide +kernel) (by decide +kernel)
  | 3, _ => exact tT_in (i := 185) (by decide +kernel) (by decide +kernel)
  | 4, _ => exact tT_in (i := 187) (by decide +kernel) (by decide +kernel)
  | 5, _ => exact tT_in (i := 189) (by decide +kernel) (by decide +kernel)
  | k + 6, hk => exact absurd hk (by omega)
theorem i_X1 : ∀ w ∈ wsX10, w ∈ tT := by
  intro w hw
  obtain ⟨k, hk, rfl⟩ := List.mem_map.mp hw
  have hk : k < 5 := List.mem_range.mp hk
  match k, hk with
  | 0, _ => exact tT_in (i := 205) (by decide +kernel) (by decide +kernel)
  | 1, _ => exact tT_in (i := 207) (by decide +kernel) (by decide +kernel)
  | 2, _ => exact tT_in (i := 209) (by decide +kernel) (by decide +kernel)
  | 3, _ => exact tT_in (i := 211) (by decide +kernel) (by decide +kernel)
  | 4, _ => exact tT_in (i := 213) (by decide +kernel) (by decide +kernel)
  | k + 5, hk => exact absurd hk (by omega)
theorem i_X2 : ∀ w ∈ wsX20, w ∈ tT := by
  intro w hw
  obtain ⟨k, hk, rfl⟩ := List.mem_map.mp hw
  have hk : k < 4 := List.mem_range.mp hk
  match k, hk with
  | 0, _ => exact tT_in (i := 128) (by decide +kernel) (by decide +kernel)
  | 1, _ => exact tT_in (i := 130) (by decide +kernel) (by decide +kernel)
  | 2, _ => exact tT_in (i := 132) (by decide +kernel) (by decide +kernel)
  | 3, _ => exact tT_in (i := 134) (by decide +kernel) (by decide +kernel)
  | k + 4, hk => exact absurd hk (by omega)
theorem i_X3 : ∀ w ∈ wsX30, w ∈ tT := by
  intro w hw
  obtain ⟨k, hk, rfl⟩ := List.mem_map.mp hw
  have hk : k < 13 := List.mem_range.mp hk
  match k, hk with
  | 0, _ => exact tT_in (i := 83) (by decide +kernel) (by decide +kernel)
  | 1, _ => exact tT_in (i := 85) (by decide +kernel) (by decide +kernel)
  | 2, _ => exact tT_in (i := 87) (by decide +kernel) (by decide +kernel)
  | 3, _ => exact tT_in (i := 89) (by decide +kernel) (by decide +kernel)
  | 4, _ => exact tT_in (i := 91) (by decide +kernel) (by decide +kernel)
  | 5, _ => exact tT_in (i := 93) (by decide +kernel) (by decide +kernel)
  | 6, _ => exact tT_in (i := 95) (by decide +kernel) (by decide +kernel)
  | 7, _ => exact tT_in (i := 97) (by decide +kernel) (by decide +kernel)
  | 8, _ => exact tT_in (i := 99) (by decide +kernel) (by decide +kernel)
  | 9, _ => exact tT_in (i := 101) (by decide +kernel) (by decide +kernel)
  | 10, _ => exact tT_in (i := 103) (by decide +kernel) (by decide +kernel)
  | 11, _ => exact tT_in (i := 105) (by decide +kernel) (by decide +kernel)
  | 12, _ => exact tT_in (i := 107) (by decide +kernel) (by decide +kernel)
  | k + 13, hk => exact absurd hk (by omega)
theorem i_X4 : ∀ w ∈ wsX40, w ∈ tT := by
  intro w hw
  obtain ⟨k, hk, rfl⟩ := List.mem_map.mp hw
  have hk : k < 6 := List.mem_range.mp hk
  match k, hk with
  | 0, _ => exact tT_in (i := 152) (by decide +kernel) (by decide +kernel)
  | 1, _ => exact tT_in (i := 154) (by decide +kernel) (by decide +kernel)
  | 2, _ => exact tT_in (i := 156) (by decide +kernel) (by decide +kernel)
  | 3, _ => exact tT_in (i := 158) (by decide +kernel) (by decide +kernel)
  | 4, _ => exact tT_in (i := 160) (by decide +kernel) (by decide +kernel)
  | 5, _ => exact tT_in (i := 162) (by decide +kernel) (by decide +kernel)
  | k + 6, hk => exact absurd hk (by omega)
theorem i_X6 : ∀ w ∈ wsX60, w ∈ tT := by
  intro w hw
  obtain ⟨k, hk, rfl⟩ := List.mem_map.mp hw
  have hk : k < 9 := List.mem_range.mp hk
  match k, hk with
  | 0, _ => exact tT_in (i := 225) (by decide +kernel) (by decide +kernel)
  | 1, _ => exact tT_in (i := 227) (by decide +kernel) (by decide +kernel)
  | 2, _ => exact tT_in (i := 229) (by decide +kernel) (by decide +kernel)
  | 3, _ => exact tT_in (i := 231) (by decide +kernel) (by decide +kernel)
  | 4, _ => exact tT_in (i := 233) (by decide +kernel) (by decide +kernel)
  | 5, _ => exact tT_in (i := 235) (by decide +kernel) (by decide +kernel)
  | 6, _ => exact tT_in (i := 237) (by decide +kernel) (by decide +kernel)
  | 7, _ => exact tT_in (i := 239) (by decide +kernel) (by decide +kernel)
  | 8, _ => exact tT_in (i := 241) (by decide +kernel) (by decide +kernel)
  | k + 9, hk => exact absurd hk (by omega)
theorem i_X7 : ∀ w ∈ wsX70, w ∈ tT := by
  intro w hw
  obtain ⟨k, hk, rfl⟩ := List.mem_map.mp hw
  have hk : k < 30 := List.mem_range.mp hk
  match k, hk with
  | 0, _ => exact tT_in (i := 654) (by decide +kernel) (by decide +kernel)
  | 1, _ => exact tT_in (i := 656) (by decide +kernel) (by decide +kernel)
  | 2, _ => exact tT_in (i := 658) (by decide +kernel) (by decide +kernel)
  | 3, _ => exact tT_in (i := 660) (by decide +kernel) (by decide +kernel)
  | 4, _ => exact tT_in (i := 662) (by decide +kernel) (by decide +kernel)
  | 5, _ => exact tT_in (i := 664) (by decide +kernel) (by decide +kernel)
  | 6, _ => exact tT_in (i := 666) (by decide +kernel) (by decide +kernel)
  | 7, _ => exact tT_in (i := 668) (by decide +kernel) (by decide +kernel)
  | 8, _ => exact tT_in (i := 670) (by decide +kernel) (by decide +kernel)
  | 9, _ => exact tT_in (i := 672) (by decide +kernel) (by decide +kernel)
  | 10, _ => exact tT_in (i := 674) (by decide +kernel) (by decide +kernel)
  | 11, _ => exact tT_in (i := 676) (by decide +kernel) (by decide +kernel)
  | 12, _ => exact tT_in (i := 678) (by decide +kernel) (by decide +kernel)
  | 13, _ => exact tT_in (i := 680) (by decide +kernel) (by decide +kernel)
  | 14, _ => exact tT_in (i := 682) (by decide +kernel) (by decide +kernel)
  | 15, _ => exact tT_in (i := 684) (by decide +kernel) (by decide +kernel)
  | 16, _ => exact tT_in (i := 686) (by decide +kernel) (by decide +kernel)
  | 17, _ => exact tT_in (i := 688) (by decide +kernel) (by decide +kernel)
  | 18, _ => exact tT_in (i := 690) (by decide +kernel) (by decide +kernel)
  | 19, _ => exact tT_in (i := 692) (by decide +kernel) (by decide +kernel)
  | 20, _ => exact tT_in (i := 694) (by decide +kernel) (by decide +kernel)
  | 21, _ => exact tT_in (i := 696) (by decide +kernel) (by decide +kernel)
  | 22, _ => exact tT_in (i := 698) (by decide +kernel) (by decide +kernel)
  | 23, _ => exact tT_in (i := 700) (by decide +kernel) (by decide +kernel)
  | 24, _ => exact tT_in (i := 702) (by decide +kernel) (by decide +kernel)
  | 25, _ => exact tT_in (i := 704) (by decide +kernel) (by decide +kernel)
  | 26, _ => exact tT_in (i := 706) (by decide +kernel) (by decide +kernel)
  | 27, _ => exact tT_in (i := 708) (by decide +kernel) (by decide +kernel)
  | 28, _ => exact tT_in (i := 710) (by decide +kernel) (by decide +kernel)
  | 29, _ => exact tT_in (i := 712) (by decide +kernel) (by decide +kernel)
  | k + 30, hk => exact absurd hk (by omega)
end
section
theorem dX0_init_0 : decode cX0_init 0 = .ok (.aload_n 0, 1) := by decide +kernel
theorem dX0_init_1 : decode cX0_init 1 = .ok (.invokespecial 3, 3) := by decide +kernel
theorem dX0_init_4 : decode cX0_init 4 = .ok (.aload_n 0, 1) := by decide +kernel
theorem dX0_init_5 : decode cX0_init 5 = .ok (.bipush 14, 2) := by decide +kernel
theorem dX0_init_7 : decode cX0_init 7 = .ok (.newarray .int, 2) := by decide +kernel
theorem dX0_init_9 : decode cX0_init 9 = .ok (.putfield 9, 3) := by decide +kernel
theorem dX0_init_12 : decode cX0_init 12 = .ok (.aload_n 0, 1) := by decide +kernel
theorem dX0_init_13 : decode cX0_init 13 = .ok (.bipush 14, 2) := by decide +kernel
theorem dX0_init_15 : decode cX0_init 15 = .ok (.newarray .int, 2) := by decide +kernel
theorem dX0_init_17 : decode cX0_init 17 = .ok (.putfield 15, 3) := by decide +kernel
theorem dX0_init_20 : decode cX0_init 20 = .ok (.aload_n 0, 1) := by decide +kernel
theorem dX0_init_21 : decode cX0_init 21 = .ok (.bipush 14, 2) := by decide +kernel
theorem dX0_init_23 : decode cX0_init 23 = .ok (.newarray .int, 2) := by decide +kernel
theorem dX0_init_25 : decode cX0_init 25 = .ok (.putfield 18, 3) := by decide +kernel
theorem dX0_init_28 : decode cX0_init 28 = .ok (.aload_n 0, 1) := by decide +kernel
theorem dX0_init_29 : decode cX0_init 29 = .ok (.bipush 14, 2) := by decide +kernel
theorem dX0_init_31 : decode cX0_init 31 = .ok (.newarray .int, 2) := by decide +kernel
theorem dX0_init_33 : decode cX0_init 33 = .ok (.putfield 21, 3) := by decide +kernel
theorem dX0_init_36 : decode cX0_init 36 = .ok (.return_, 1) := by decide +kernel
theorem dX0_add_0 : decode cX0_add 0 = .ok (.aload_n 0, 1) := by decide +kernel
theorem dX0_add_1 : decode cX0_add 1 = .ok (.getfield 24, 3) := by decide +kernel
theorem dX0_add_4 : decode cX0_add 4 = .ok (.bipush 14, 2) := by decide +kernel
theorem dX0_add_6 : decode cX0_add 6 = .ok (.if_icmp .ne 26, 3) := by decide +kernel
theorem dX0_add_9 : decode cX0_add 9 = .ok (.aload_n 0, 1) := by decide +kernel
theorem dX0_add_10 : decode cX0_add 10 = .ok (.aload_n 0, 1) := by decide +kernel
theorem dX0_add_11 : decode cX0_add 11 = .ok (.getfield 28, 3) := by decide +kernel
theorem dX0_add_14 : decode cX0_add 14 = .ok (.iconst 1, 1) := by decide +kernel
theorem dX0_add_15 : decode cX0_add 15 = .ok (.iadd, 1) := by decide +kernel
theorem dX0_add_16 : decode cX0_add 16 = .ok (.bipush 14, 2) := by decide +kernel
theorem dX0_add_18 : decode cX0_add 18 = .ok (.irem, 1) := by decide +kernel
theorem dX0_add_19 : decode cX0_add 19 = .ok (.putfield 28, 3) := by decide +kernel
theorem dX0_add_22 : decode cX0_add 22 = .ok (.aload_n 0, 1) := by decide +kernel
theorem dX0_add_23 : decode cX0_add 23 = .ok (.dup, 1) := by decide +kernel
theorem dX0_add_24 : decode cX0_add 24 = .ok (.getfield 24, 3) := by decide +kernel
theorem dX0_add_27 : decode cX0_add 27 = .ok (.iconst 1, 1) := by decide +kernel
theorem dX0_add_28 : decode cX0_add 28 = .ok (.isub, 1) := by decide +kernel
theorem dX0_add_29 : decode cX0_add 29 = .ok (.putfield 24, 3) := by decide +kernel
theorem dX0_add_32 : decode cX0_add 32 = .ok (.aload_n 0, 1) := by decide +kernel
theorem dX0_add_33 : decode cX0_add 33 = .ok (.getfield 28, 3) := by decide +kernel
theorem dX0_add_36 : decode cX0_add 36 = .ok (.aload_n 0, 1) := by decide +kernel
theorem dX0_add_37 : decode cX0_add 37 = .ok (.getfield 24, 3) := by decide +kernel
theorem dX0_add_40 : decode cX0_add 40 = .ok (.iadd, 1) := by decide +kernel
theorem dX0_add_41 : decode cX0_add 41 = .ok (.bipush 14, 2) := by decide +kernel
theorem dX0_add_43 : decode cX0_add 43 = .ok (.irem, 1) := by decide +kernel
theorem dX0_add_44 : decode cX0_add 44 = .ok (.istore 5, 2) := by decide +kernel
theorem dX0_add_46 : decode cX0_add 46 = .ok (.aload_n 0, 1) := by decide +kernel
theorem dX0_add_47 : decode cX0_add 47 = .ok (.getfield 9, 3) := by decide +kernel
theorem dX0_add_50 : decode cX0_add 50 = .ok (.iload 5, 2) := by decide +kernel
theorem dX0_add_52 : decode cX0_add 52 = .ok (.iload_n 1, 1) := by decide +kernel
theorem dX0_add_53 : decode cX0_add 53 = .ok (.iastore, 1) := by decide +kernel
theorem dX0_add_54 : decode cX0_add 54 = .ok (.aload_n 0, 1) := by decide +kernel
theorem dX0_add_55 : decode cX0_add 55 = .ok (.getfield 15, 3) := by decide +kernel
theorem dX0_add_58 : decode cX0_add 58 = .ok (.iload 5, 2) := by decide +kernel
theorem dX0_add_60 : decode cX0_add 60 = .ok (.iload_n 2, 1) := by decide +kernel
theorem dX0_add_61 : decode cX0_add 61 = .ok (.iastore, 1) := by decide +kernel
theorem dX0_add_62 : decode cX0_add 62 = .ok (.aload_n 0, 1) := by decide +kernel
theorem dX0_add_63 : decode cX0_add 63 = .ok (.getfield 18, 3) := by decide +kernel
theorem dX0_add_66 : decode cX0_add 66 = .ok (.iload 5, 2) := by decide +kernel
theorem dX0_add_68 : decode cX0_add 68 = .ok (.iload_n 3, 1) := by decide +kernel
theorem dX0_add_69 : decode cX0_add 69 = .ok (.iastore, 1) := by decide +kernel
theorem dX0_add_70 : decode cX0_add 70 = .ok (.aload_n 0, 1) := by decide +kernel
theorem dX0_add_71 : decode cX0_add 71 = .ok (.getfield 21, 3) := by decide +kernel
theorem dX0_add_74 : decode cX0_add 74 = .ok (.iload 5, 2) := by decide +kernel
theorem dX0_add_76 : decode cX0_add 76 = .ok (.iload 4, 2) := by decide +kernel
theorem dX0_add_78 : decode cX0_add 78 = .ok (.iastore, 1) := by decide +kernel
theorem dX0_add_79 : decode cX0_add 79 = .ok (.aload_n 0, 1) := by decide +kernel
theorem dX0_add_80 : decode cX0_add 80 = .ok (.dup, 1) := by decide +kernel
theorem dX0_add_81 : decode cX0_add 81 = .ok (.getfield 24, 3) := by decide +kernel
theorem dX0_add_84 : decode cX0_add 84 = .ok (.iconst 1, 1) := by decide +kernel
theorem dX0_add_85 : decode cX0_add 85 = .ok (.iadd, 1) := by decide +kernel
theorem dX0_add_86 : decode cX0_add 86 = .ok (.putfield 24, 3) := by decide +kernel
theorem dX0_add_89 : decode cX0_add 89 = .ok (.return_, 1) := by decide +kernel
theorem dX0_takeBackLast_0 : decode cX0_takeBackLast 0 = .ok (.aload_n 0, 1) := by decide +kernel
theorem dX0_takeBackLast_1 : decode cX0_takeBackLast 1 = .ok (.getfield 24, 3) := by decide +kernel
theorem dX0_takeBackLast_4 : decode cX0_takeBackLast 4 = .ok (.ifCond .ne 4, 3) := by decide +kernel
theorem dX0_takeBackLast_7 : decode cX0_takeBackLast 7 = .ok (.return_, 1) := by decide +kernel
theorem dX0_takeBackLast_8 : decode cX0_takeBackLast 8 = .ok (.aload_n 0, 1) := by decide +kernel
theorem dX0_takeBackLast_9 : decode cX0_takeBackLast 9 = .ok (.dup, 1) := by decide +kernel
theorem dX0_takeBackLast_10 : decode cX0_takeBackLast 10 = .ok (.getfield 24, 3) := by decide +kernel
theorem dX0_takeBackLast_13 : decode cX0_takeBackLast 13 = .ok (.iconst 1, 1) := by decide +kernel
theorem dX0_takeBackLast_14 : decode cX0_takeBackLast 14 = .ok (.isub, 1) := by decide +kernel
theorem dX0_takeBackLast_15 : decode cX0_takeBackLast 15 = .ok (.putfield 24, 3) := by decide +kernel
theorem dX0_takeBackLast_18 : decode cX0_takeBackLast 18 = .ok (.aload_n 0, 1) := by decide +kernel
theorem dX0_takeBackLast_19 : decode cX0_takeBackLast 19 = .ok (.getfield 28, 3) := by decide +kernel
theorem dX0_takeBackLast_22 : decode cX0_takeBackLast 22 = .ok (.aload_n 0, 1) := by decide +kernel
theorem dX0_takeBackLast_23 : decode cX0_takeBackLast 23 = .ok (.getfield 24, 3) := by decide +kernel
theorem dX0_takeBackLast_26 : decode cX0_takeBackLast 26 = .ok (.iadd, 1) := by decide +kernel
theorem dX0_takeBackLast_27 : decode cX0_takeBackLast 27 = .ok (.bipush 14, 2) := by decide +kernel
theorem dX0_takeBackLast_29 : decode cX0_takeBackLast 29 = .ok (.irem, 1) := by decide +kernel
theorem dX0_takeBackLast_30 : decode cX0_takeBackLast 30 = .ok (.istore_n 2, 1) := by decide +kernel
theorem dX0_takeBackLast_31 : decode cX0_takeBackLast 31 = .ok (.aload_n 0, 1) := by decide +kernel
theorem dX0_takeBackLast_32 : decode cX0_takeBackLast 32 = .ok (.getfield 9, 3) := by decide +kernel
theorem dX0_takeBackLast_35 : decode cX0_takeBackLast 35 = .ok (.iload_n 2, 1) := by decide +kernel
theorem dX0_takeBackLast_36 : decode cX0_takeBackLast 36 = .ok (.iaload, 1) := by decide +kernel
theorem dX0_takeBackLast_37 : decode cX0_takeBackLast 37 = .ok (.tableswitch 96 1 3 #[27, 46, 71], 27) := by decide +kernel
theorem dX0_takeBackLast_64 : decode cX0_takeBackLast 64 = .ok (.aload_n 1, 1) := by decide +kernel
theorem dX0_takeBackLast_65 : decode cX0_takeBackLast 65 = .ok (.aload_n 0, 1) := by decide +kernel
theorem dX0_takeBackLast_66 : decode cX0_takeBackLast 66 = .ok (.getfield 15, 3) := by decide +kernel
theorem dX0_takeBackLast_69 : decode cX0_takeBackLast 69 = .ok (.iload_n 2, 1) := by decide +kernel
theorem dX0_takeBackLast_70 : decode cX0_takeBackLast 70 = .ok (.iaload, 1) := by decide +kernel
theorem dX0_takeBackLast_71 : decode cX0_takeBackLast 71 = .ok (.aload_n 0, 1) := by decide +kernel
theorem dX0_takeBackLast_72 : decode cX0_takeBackLast 72 = .ok (.getfield 18, 3) := by decide +kernel
theorem dX0_takeBackLast_75 : decode cX0_takeBackLast 75 = .ok (.iload_n 2, 1) := by decide +kernel
theorem dX0_takeBackLast_76 : decode cX0_takeBackLast 76 = .ok (.iaload, 1) := by decide +kernel
theorem dX0_takeBackLast_77 : decode cX0_takeBackLast 77 = .ok (.invokevirtual 31, 3) := by decide +kernel
theorem dX0_takeBackLast_80 : decode cX0_takeBackLast 80 = .ok (.goto 53, 3) := by decide +kernel
theorem dX0_takeBackLast_83 : decode cX0_takeBackLast 83 = .ok (.aload_n 1, 1) := by decide +kernel
theorem dX0_takeBackLast_84 : decode cX0_takeBackLast 84 = .ok (.aload_n 0, 1) := by decide +kernel
theorem dX0_takeBackLast_85 : decode cX0_takeBackLast 85 = .ok (.getfield 15, 3) := by decide +kernel
theorem dX0_takeBackLast_88 : decode cX0_takeBackLast 88 = .ok (.iload_n 2, 1) := by decide +kernel
theorem dX0_takeBackLast_89 : decode cX0_takeBackLast 89 = .ok (.iaload, 1) := by decide +kernel
theorem dX0_takeBackLast_90 : decode cX0_takeBackLast 90 = .ok (.aload_n 0, 1) := by decide +kernel
theorem dX0_takeBackLast_91 : decode cX0_takeBackLast 91 = .ok (.getfield 18, 3) := by decide +kernel
theorem dX0_takeBackLast_94 : decode cX0_takeBackLast 94 = .ok (.iload_n 2, 1) := by decide +kernel
theorem dX0_takeBackLast_95 : decode cX0_takeBackLast 95 = .ok (.iaload, 1) := by decide +kernel
theorem dX0_takeBackLast_96 : decode cX0_takeBackLast 96 = .ok (.aload_n 0, 1) := by decide +kernel
theorem dX0_takeBackLast_97 : decode cX0_takeBackLast 97 = .ok (.getfield 21, 3) := by decide +kernel
theorem dX0_takeBackLast_100 : decode cX0_takeBackLast 100 = .ok (.iload_n 2, 1) := by decide +kernel
theorem dX0_takeBackLast_101 : decode cX0_takeBackLast 101 = .ok (.iaload, 1) := by decide +kernel
theorem dX0_takeBackLast_102 : decode cX0_takeBackLast 102 = .ok (.invokevirtual 37, 3) := by decide +kernel
theorem dX0_takeBackLast_105 : decode cX0_takeBackLast 105 = .ok (.goto 28, 3) := by decide +kernel
theorem dX0_takeBackLast_108 : decode cX0_takeBackLast 108 = .ok (.aload_n 1, 1) := by decide +kernel
theorem dX0_takeBackLast_109 : decode cX0_takeBackLast 109 = .ok (.aload_n 0, 1) := by decide +kernel
theorem dX0_takeBackLast_110 : decode cX0_takeBackLast 110 = .ok (.getfield 15, 3) := by decide +kernel
theorem dX0_takeBackLast_113 : decode cX0_takeBackLast 113 = .ok (.iload_n 2, 1) := by decide +kernel
theorem dX0_takeBackLast_114 : decode cX0_takeBackLast 114 = .ok (.iaload, 1) := by decide +kernel
theorem dX0_takeBackLast_115 : decode cX0_takeBackLast 115 = .ok (.aload_n 0, 1) := by decide +kernel
theorem dX0_takeBackLast_116 : decode cX0_takeBackLast 116 = .ok (.getfield 18, 3) := by decide +kernel
theorem dX0_takeBackLast_119 : decode cX0_takeBackLast 119 = .ok (.iload_n 2, 1) := by decide +kernel
theorem dX0_takeBackLast_120 : decode cX0_takeBackLast 120 = .ok (.iaload, 1) := by decide +kernel
theorem dX0_takeBackLast_121 : decode cX0_takeBackLast 121 = .ok (.aload_n 0, 1) := by decide +kernel
theorem dX0_takeBackLast_122 : decode cX0_takeBackLast 122 = .ok (.getfield 21, 3) := by decide +kernel
theorem dX0_takeBackLast_125 : decode cX0_takeBackLast 125 = .ok (.iload_n 2, 1) := by decide +kernel
theorem dX0_takeBackLast_126 : decode cX0_takeBackLast 126 = .ok (.iaload, 1) := by decide +kernel
theorem dX0_takeBackLast_127 : decode cX0_takeBackLast 127 = .ok (.invokevirtual 41, 3) := by decide +kernel
theorem dX0_takeBackLast_130 : decode cX0_takeBackLast 130 = .ok (.goto 3, 3) := by decide +kernel
theorem dX0_takeBackLast_133 : decode cX0_takeBackLast 133 = .ok (.return_, 1) := by decide +kernel
theorem dX1_init_0 : decode cX1_init 0 = .ok (.aload_n 0, 1) := by decide +kernel
theorem dX1_init_1 : decode cX1_init 1 = .ok (.invokespecial 3, 3) := by decide +kernel
theorem dX1_init_4 : decode cX1_init 4 = .ok (.aload_n 0, 1) := by decide +kernel
theorem dX1_init_5 : decode cX1_init 5 = .ok (.bipush 6, 2) := by decide +kernel
theorem dX1_init_7 : decode cX1_init 7 = .ok (.newarray .int, 2) := by decide +kernel
theorem dX1_init_9 : decode cX1_init 9 = .ok (.putfield 9, 3) := by decide +kernel
theorem dX1_init_12 : decode cX1_init 12 = .ok (.aload_n 0, 1) := by decide +kernel
theorem dX1_init_13 : decode cX1_init 13 = .ok (.bipush 6, 2) := by decide +kernel
theorem dX1_init_15 : decode cX1_init 15 = .ok (.newarray .int, 2) := by decide +kernel
theorem dX1_init_17 : decode cX1_init 17 = .ok (.putfield 15, 3) := by decide +kernel
theorem dX1_init_20 : decode cX1_init 20 = .ok (.aload_n 0, 1) := by decide +kernel
theorem dX1_init_21 : decode cX1_init 21 = .ok (.bipush 6, 2) := by decide +kernel
theorem dX1_init_23 : decode cX1_init 23 = .ok (.newarray .int, 2) := by decide +kernel
theorem dX1_init_25 : decode cX1_init 25 = .ok (.putfield 18, 3) := by decide +kernel
theorem dX1_init_28 : decode cX1_init 28 = .ok (.aload_n 0, 1) := by decide +kernel
theorem dX1_init_29 : decode cX1_init 29 = .ok (.bipush 6, 2) := by decide +kernel
theorem dX1_init_31 : decode cX1_init 31 = .ok (.newarray .boolean, 2) := by decide +kernel
theorem dX1_init_33 : decode cX1_init 33 = .ok (.putfield 21, 3) := by decide +kernel
theorem dX1_init_36 : decode cX1_init 36 = .ok (.return_, 1) := by decide +kernel
theorem dX1_add_0 : decode cX1_add 0 = .ok (.aload_n 0, 1) := by decide +kernel
theorem dX1_add_1 : decode cX1_add 1 = .ok (.getfield 25, 3) := by decide +kernel
theorem dX1_add_4 : decode cX1_add 4 = .ok (.bipush 6, 2) := by decide +kernel
theorem dX1_add_6 : decode cX1_add 6 = .ok (.if_icmp .lt 5, 3) := by decide +kernel
theorem dX1_add_9 : decode cX1_add 9 = .ok (.iconst 0, 1) := by decide +kernel
theorem dX1_add_10 : decode cX1_add 10 = .ok (.ireturn, 1) := by decide +kernel
theorem dX1_add_11 : decode cX1_add 11 = .ok (.aload_n 0, 1) := by decide +kernel
theorem dX1_add_12 : decode cX1_add 12 = .ok (.getfield 9, 3) := by decide +kernel
theorem dX1_add_15 : decode cX1_add 15 = .ok (.aload_n 0, 1) := by decide +kernel
theorem dX1_add_16 : decode cX1_add 16 = .ok (.getfield 25, 3) := by decide +kernel
theorem dX1_add_19 : decode cX1_add 19 = .ok (.iload_n 1, 1) := by decide +kernel
theorem dX1_add_20 : decode cX1_add 20 = .ok (.iastore, 1) := by decide +kernel
theorem dX1_add_21 : decode cX1_add 21 = .ok (.aload_n 0, 1) := by decide +kernel
theorem dX1_add_22 : decode cX1_add 22 = .ok (.getfield 15, 3) := by decide +kernel
theorem dX1_add_25 : decode cX1_add 25 = .ok (.aload_n 0, 1) := by decide +kernel
theorem dX1_add_26 : decode cX1_add 26 = .ok (.getfield 25, 3) := by decide +kernel
theorem dX1_add_29 : decode cX1_add 29 = .ok (.iload_n 2, 1) := by decide +kernel
theorem dX1_add_30 : decode cX1_add 30 = .ok (.iastore, 1) := by decide +kernel
theorem dX1_add_31 : decode cX1_add 31 = .ok (.aload_n 0, 1) := by decide +kernel
theorem dX1_add_32 : decode cX1_add 32 = .ok (.getfield 18, 3) := by decide +kernel
theorem dX1_add_35 : decode cX1_add 35 = .ok (.aload_n 0, 1) := by decide +kernel
theorem dX1_add_36 : decode cX1_add 36 = .ok (.getfield 25, 3) := by decide +kernel
theorem dX1_add_39 : decode cX1_add 39 = .ok (.iload_n 3, 1) := by decide +kernel
theorem dX1_add_40 : decode cX1_add 40 = .ok (.iastore, 1) := by decide +kernel
theorem dX1_add_41 : decode cX1_add 41 = .ok (.aload_n 0, 1) := by decide +kernel
theorem dX1_add_42 : decode cX1_add 42 = .ok (.getfield 21, 3) := by decide +kernel
theorem dX1_add_45 : decode cX1_add 45 = .ok (.aload_n 0, 1) := by decide +kernel
theorem dX1_add_46 : decode cX1_add 46 = .ok (.getfield 25, 3) := by decide +kernel
theorem dX1_add_49 : decode cX1_add 49 = .ok (.iload 4, 2) := by decide +kernel
theorem dX1_add_51 : decode cX1_add 51 = .ok (.bastore, 1) := by decide +kernel
theorem dX1_add_52 : decode cX1_add 52 = .ok (.aload_n 0, 1) := by decide +kernel
theorem dX1_add_53 : decode cX1_add 53 = .ok (.dup, 1) := by decide +kernel
theorem dX1_add_54 : decode cX1_add 54 = .ok (.getfield 25, 3) := by decide +kernel
theorem dX1_add_57 : decode cX1_add 57 = .ok (.iconst 1, 1) := by decide +kernel
theorem dX1_add_58 : decode cX1_add 58 = .ok (.iadd, 1) := by decide +kernel
theorem dX1_add_59 : decode cX1_add 59 = .ok (.putfield 25, 3) := by decide +kernel
theorem dX1_add_62 : decode cX1_add 62 = .ok (.iconst 1, 1) := by decide +kernel
theorem dX1_add_63 : decode cX1_add 63 = .ok (.ireturn, 1) := by decide +kernel
theorem dX1_agreeWith_0 : decode cX1_agreeWith 0 = .ok (.iconst 0, 1) := by decide +kernel
theorem dX1_agreeWith_1 : decode cX1_agreeWith 1 = .ok (.istore 4, 2) := by decide +kernel
theorem dX1_agreeWith_3 : decode cX1_agreeWith 3 = .ok (.iload 4, 2) := by decide +kernel
theorem dX1_agreeWith_5 : decode cX1_agreeWith 5 = .ok (.aload_n 0, 1) := by decide +kernel
theorem dX1_agreeWith_6 : decode cX1_agreeWith 6 = .ok (.getfield 25, 3) := by decide +kernel
theorem dX1_agreeWith_9 : decode cX1_agreeWith 9 = .ok (.if_icmp .ge 92, 3) := by decide +kernel
theorem dX1_agreeWith_12 : decode cX1_agreeWith 12 = .ok (.aload_n 2, 1) := by decide +kernel
theorem dX1_agreeWith_13 : decode cX1_agreeWith 13 = .ok (.aload_n 0, 1) := by decide +kernel
theorem dX1_agreeWith_14 : decode cX1_agreeWith 14 = .ok (.getfield 9, 3) := by decide +kernel
theorem dX1_agreeWith_17 : decode cX1_agreeWith 17 = .ok (.iload 4, 2) := by decide +kernel
theorem dX1_agreeWith_19 : decode cX1_agreeWith 19 = .ok (.iaload, 1) := by decide +kernel
theorem dX1_agreeWith_20 : decode cX1_agreeWith 20 = .ok (.invokevirtual 29, 3) := by decide +kernel
theorem dX1_agreeWith_23 : decode cX1_agreeWith 23 = .ok (.ifCond .eq 30, 3) := by decide +kernel
theorem dX1_agreeWith_26 : decode cX1_agreeWith 26 = .ok (.aload_n 3, 1) := by decide +kernel
theorem dX1_agreeWith_27 : decode cX1_agreeWith 27 = .ok (.iload_n 1, 1) := by decide +kernel
theorem dX1_agreeWith_28 : decode cX1_agreeWith 28 = .ok (.aload_n 2, 1) := by decide +kernel
theorem dX1_agreeWith_29 : decode cX1_agreeWith 29 = .ok (.getfield 35, 3) := by decide +kernel
theorem dX1_agreeWith_32 : decode cX1_agreeWith 32 = .ok (.aload_n 0, 1) := by decide +kernel
theorem dX1_agreeWith_33 : decode cX1_agreeWith 33 = .ok (.getfield 9, 3) := by decide +kernel
theorem dX1_agreeWith_36 : decode cX1_agreeWith 36 = .ok (.iload 4, 2) := by decide +kernel
theorem dX1_agreeWith_38 : decode cX1_agreeWith 38 = .ok (.iaload, 1) := by decide +kernel
theorem dX1_agreeWith_39 : decode cX1_agreeWith 39 = .ok (.iaload, 1) := by decide +kernel
theorem dX1_agreeWith_40 : decode cX1_agreeWith 40 = .ok (.invokestatic 36, 3) := by decide +kernel
theorem dX1_agreeWith_43 : decode cX1_agreeWith 43 = .ok (.aload_n 3, 1) := by decide +kernel
theorem dX1_agreeWith_44 : decode cX1_agreeWith 44 = .ok (.getfield 42, 3) := by decide +kernel
theorem dX1_agreeWith_47 : decode cX1_agreeWith 47 = .ok (.invokevirtual 47, 3) := by decide +kernel
theorem dX1_agreeWith_50 : decode cX1_agreeWith 50 = .ok (.goto 4, 3) := by decide +kernel
theorem dX1_agreeWith_53 : decode cX1_agreeWith 53 = .ok (.iconst 0, 1) := by decide +kernel
theorem dX1_agreeWith_54 : decode cX1_agreeWith 54 = .ok (.istore 5, 2) := by decide +kernel
theorem dX1_agreeWith_56 : decode cX1_agreeWith 56 = .ok (.iload 5, 2) := by decide +kernel
theorem dX1_agreeWith_58 : decode cX1_agreeWith 58 = .ok (.aload_n 0, 1) := by decide +kernel
theorem dX1_agreeWith_59 : decode cX1_agreeWith 59 = .ok (.getfield 15, 3) := by decide +kernel
theorem dX1_agreeWith_62 : decode cX1_agreeWith 62 = .ok (.iload 4, 2) := by decide +kernel
theorem dX1_agreeWith_64 : decode cX1_agreeWith 64 = .ok (.iaload, 1) := by decide +kernel
theorem dX1_agreeWith_65 : decode cX1_agreeWith 65 = .ok (.invokestatic 50, 3) := by decide +kernel
theorem dX1_agreeWith_68 : decode cX1_agreeWith 68 = .ok (.aload_n 0, 1) := by decide +kernel
theorem dX1_agreeWith_69 : decode cX1_agreeWith 69 = .ok (.getfield 18, 3) := by decide +kernel
theorem dX1_agreeWith_72 : decode cX1_agreeWith 72 = .ok (.iload 4, 2) := by decide +kernel
theorem dX1_agreeWith_74 : decode cX1_agreeWith 74 = .ok (.iaload, 1) := by decide +kernel
theorem dX1_agreeWith_75 : decode cX1_agreeWith 75 = .ok (.if_icmp .ne 7, 3) := by decide +kernel
theorem dX1_agreeWith_78 : decode cX1_agreeWith 78 = .ok (.iconst 1, 1) := by decide +kernel
theorem dX1_agreeWith_79 : decode cX1_agreeWith 79 = .ok (.goto 4, 3) := by decide +kernel
theorem dX1_agreeWith_82 : decode cX1_agreeWith 82 = .ok (.iconst 0, 1) := by decide +kernel
theorem dX1_agreeWith_83 : decode cX1_agreeWith 83 = .ok (.aload_n 0, 1) := by decide +kernel
theorem dX1_agreeWith_84 : decode cX1_agreeWith 84 = .ok (.getfield 21, 3) := by decide +kernel
theorem dX1_agreeWith_87 : decode cX1_agreeWith 87 = .ok (.iload 4, 2) := by decide +kernel
theorem dX1_agreeWith_89 : decode cX1_agreeWith 89 = .ok (.baload, 1) := by decide +kernel
theorem dX1_agreeWith_90 : decode cX1_agreeWith 90 = .ok (.if_icmp .eq 5, 3) := by decide +kernel
theorem dX1_agreeWith_93 : decode cX1_agreeWith 93 = .ok (.iconst 0, 1) := by decide +kernel
theorem dX1_agreeWith_94 : decode cX1_agreeWith 94 = .ok (.ireturn, 1) := by decide +kernel
theorem dX1_agreeWith_95 : decode cX1_agreeWith 95 = .ok (.iinc 4 1, 3) := by decide +kernel
theorem dX1_agreeWith_98 : decode cX1_agreeWith 98 = .ok (.goto (-95), 3) := by decide +kernel
theorem dX1_agreeWith_101 : decode cX1_agreeWith 101 = .ok (.iconst 1, 1) := by decide +kernel
theorem dX1_agreeWith_102 : decode cX1_agreeWith 102 = .ok (.ireturn, 1) := by decide +kernel
theorem dX2_init_0 : decode cX2_init 0 = .ok (.aload_n 0, 1) := by decide +kernel
theorem dX2_init_1 : decode cX2_init 1 = .ok (.invokespecial 3, 3) := by decide +kernel
theorem dX2_init_4 : decode cX2_init 4 = .ok (.aload_n 0, 1) := by decide +kernel
theorem dX2_init_5 : decode cX2_init 5 = .ok (.iconst 4, 1) := by decide +kernel
theorem dX2_init_6 : decode cX2_init 6 = .ok (.newarray .int, 2) := by decide +kernel
theorem dX2_init_8 : decode cX2_init 8 = .ok (.putfield 9, 3) := by decide +kernel
theorem dX2_init_11 : decode cX2_init 11 = .ok (.aload_n 0, 1) := by decide +kernel
theorem dX2_init_12 : decode cX2_init 12 = .ok (.iconst 3, 1) := by decide +kernel
theorem dX2_init_13 : decode cX2_init 13 = .ok (.newarray .int, 2) := by decide +kernel
theorem dX2_init_15 : decode cX2_init 15 = .ok (.putfield 15, 3) := by decide +kernel
theorem dX2_init_18 : decode cX2_init 18 = .ok (.return_, 1) := by decide +kernel
theorem dX2_takeFrom_0 : decode cX2_takeFrom 0 = .ok (.aload_n 1, 1) := by decide +kernel
theorem dX2_takeFrom_1 : decode cX2_takeFrom 1 = .ok (.getfield 18, 3) := by decide +kernel
theorem dX2_takeFrom_4 : decode cX2_takeFrom 4 = .ok (.iconst 0, 1) := by decide +kernel
theorem dX2_takeFrom_5 : decode cX2_takeFrom 5 = .ok (.aload_n 0, 1) := by decide +kernel
theorem dX2_takeFrom_6 : decode cX2_takeFrom 6 = .ok (.getfield 9, 3) := by decide +kernel
theorem dX2_takeFrom_9 : decode cX2_takeFrom 9 = .ok (.iconst 0, 1) := by decide +kernel
theorem dX2_takeFrom_10 : decode cX2_takeFrom 10 = .ok (.iconst 4, 1) := by decide +kernel
theorem dX2_takeFrom_11 : decode cX2_takeFrom 11 = .ok (.invokestatic 21, 3) := by decide +kernel
theorem dX2_takeFrom_14 : decode cX2_takeFrom 14 = .ok (.aload_n 1, 1) := by decide +kernel
theorem dX2_takeFrom_15 : decode cX2_takeFrom 15 = .ok (.getfield 27, 3) := by decide +kernel
theorem dX2_takeFrom_18 : decode cX2_takeFrom 18 = .ok (.iconst 0, 1) := by decide +kernel
theorem dX2_takeFrom_19 : decode cX2_takeFrom 19 = .ok (.aload_n 0, 1) := by decide +kernel
theorem dX2_takeFrom_20 : decode cX2_takeFrom 20 = .ok (.getfield 15, 3) := by decide +kernel
theorem dX2_takeFrom_23 : decode cX2_takeFrom 23 = .ok (.iconst 0, 1) := by decide +kernel
theorem dX2_takeFrom_24 : decode cX2_takeFrom 24 = .ok (.iconst 3, 1) := by decide +kernel
theorem dX2_takeFrom_25 : decode cX2_takeFrom 25 = .ok (.invokestatic 21, 3) := by decide +kernel
theorem dX2_takeFrom_28 : decode cX2_takeFrom 28 = .ok (.aload_n 0, 1) := by decide +kernel
theorem dX2_takeFrom_29 : decode cX2_takeFrom 29 = .ok (.aload_n 1, 1) := by decide +kernel
theorem dX2_takeFrom_30 : decode cX2_takeFrom 30 = .ok (.getfield 28, 3) := by decide +kernel
theorem dX2_takeFrom_33 : decode cX2_takeFrom 33 = .ok (.putfield 32, 3) := by decide +kernel
theorem dX2_takeFrom_36 : decode cX2_takeFrom 36 = .ok (.aload_n 0, 1) := by decide +kernel
theorem dX2_takeFrom_37 : decode cX2_takeFrom 37 = .ok (.aload_n 1, 1) := by decide +kernel
theorem dX2_takeFrom_38 : decode cX2_takeFrom 38 = .ok (.getfield 33, 3) := by decide +kernel
theorem dX2_takeFrom_41 : decode cX2_takeFrom 41 = .ok (.putfield 36, 3) := by decide +kernel
theorem dX2_takeFrom_44 : decode cX2_takeFrom 44 = .ok (.return_, 1) := by decide +kernel
theorem dX2_hasRoot_0 : decode cX2_hasRoot 0 = .ok (.iload_n 1, 1) := by decide +kernel
theorem dX2_hasRoot_1 : decode cX2_hasRoot 1 = .ok (.ifCond .lt 15, 3) := by decide +kernel
theorem dX2_hasRoot_4 : decode cX2_hasRoot 4 = .ok (.iload_n 1, 1) := by decide +kernel
theorem dX2_hasRoot_5 : decode cX2_hasRoot 5 = .ok (.aload_n 0, 1) := by decide +kernel
theorem dX2_hasRoot_6 : decode cX2_hasRoot 6 = .ok (.getfield 32, 3) := by decide +kernel
theorem dX2_hasRoot_9 : decode cX2_hasRoot 9 = .ok (.if_icmp .ge 7, 3) := by decide +kernel
theorem dX2_hasRoot_12 : decode cX2_hasRoot 12 = .ok (.iconst 1, 1) := by decide +kernel
theorem dX2_hasRoot_13 : decode cX2_hasRoot 13 = .ok (.goto 4, 3) := by decide +kernel
theorem dX2_hasRoot_16 : decode cX2_hasRoot 16 = .ok (.iconst 0, 1) := by decide +kernel
theorem dX2_hasRoot_17 : decode cX2_hasRoot 17 = .ok (.ireturn, 1) := by decide +kernel
theorem dX2_hasEnding_0 : decode cX2_hasEnding 0 = .ok (.iload_n 1, 1) := by decide +kernel
theorem dX2_hasEnding_1 : decode cX2_hasEnding 1 = .ok (.ifCond .lt 15, 3) := by decide +kernel
theorem dX2_hasEnding_4 : decode cX2_hasEnding 4 = .ok (.iload_n 1, 1) := by decide +kernel
theorem dX2_hasEnding_5 : decode cX2_hasEnding 5 = .ok (.aload_n 0, 1) := by decide +kernel
theorem dX2_hasEnding_6 : decode cX2_hasEnding 6 = .ok (.getfield 36, 3) := by decide +kernel
theorem dX2_hasEnding_9 : decode cX2_hasEnding 9 = .ok (.if_icmp .ge 7, 3) := by decide +kernel
theorem dX2_hasEnding_12 : decode cX2_hasEnding 12 = .ok (.iconst 1, 1) := by decide +kernel
theorem dX2_hasEnding_13 : decode cX2_hasEnding 13 = .ok (.goto 4, 3) := by decide +kernel
theorem dX2_hasEnding_16 : decode cX2_hasEnding 16 = .ok (.iconst 0, 1) := by decide +kernel
theorem dX2_hasEnding_17 : decode cX2_hasEnding 17 = .ok (.ireturn, 1) := by decide +kernel
theorem dX2_hasPair_0 : decode cX2_hasPair 0 = .ok (.aload_n 0, 1) := by decide +kernel
theorem dX2_hasPair_1 : decode cX2_hasPair 1 = .ok (.iload_n 1, 1) := by decide +kernel
theorem dX2_hasPair_2 : decode cX2_hasPair 2 = .ok (.invokevirtual 37, 3) := by decide +kernel
theorem dX2_hasPair_5 : decode cX2_hasPair 5 = .ok (.ifCond .eq 15, 3) := by decide +kernel
theorem dX2_hasPair_8 : decode cX2_hasPair 8 = .ok (.aload_n 0, 1) := by decide +kernel
theorem dX2_hasPair_9 : decode cX2_hasPair 9 = .ok (.iload_n 2, 1) := by decide +kernel
theorem dX2_hasPair_10 : decode cX2_hasPair 10 = .ok (.invokevirtual 41, 3) := by decide +kernel
theorem dX2_hasPair_13 : decode cX2_hasPair 13 = .ok (.ifCond .eq 7, 3) := by decide +kernel
theorem dX2_hasPair_16 : decode cX2_hasPair 16 = .ok (.iconst 1, 1) := by decide +kernel
theorem dX2_hasPair_17 : decode cX2_hasPair 17 = .ok (.goto 4, 3) := by decide +kernel
theorem dX2_hasPair_20 : decode cX2_hasPair 20 = .ok (.iconst 0, 1) := by decide +kernel
theorem dX2_hasPair_21 : decode cX2_hasPair 21 = .ok (.ireturn, 1) := by decide +kernel
theorem dX2_joined_0 : decode cX2_joined 0 = .ok (.aload_n 0, 1) := by decide +kernel
theorem dX2_joined_1 : decode cX2_joined 1 = .ok (.getfield 9, 3) := by decide +kernel
theorem dX2_joined_4 : decode cX2_joined 4 = .ok (.iload_n 1, 1) := by decide +kernel
theorem dX2_joined_5 : decode cX2_joined 5 = .ok (.iaload, 1) := by decide +kernel
theorem dX2_joined_6 : decode cX2_joined 6 = .ok (.aload_n 0, 1) := by decide +kernel
theorem dX2_joined_7 : decode cX2_joined 7 = .ok (.getfield 15, 3) := by decide +kernel
theorem dX2_joined_10 : decode cX2_joined 10 = .ok (.iload_n 2, 1) := by decide +kernel
theorem dX2_joined_11 : decode cX2_joined 11 = .ok (.iaload, 1) := by decide +kernel
theorem dX2_joined_12 : decode cX2_joined 12 = .ok (.invokestatic 44, 3) := by decide +kernel
theorem dX2_joined_15 : decode cX2_joined 15 = .ok (.ireturn, 1) := by decide +kernel
theorem dX3_init_0 : decode cX3_init 0 = .ok (.aload_n 0, 1) := by decide +kernel
theorem dX3_init_1 : decode cX3_init 1 = .ok (.invokespecial 3, 3) := by decide +kernel
theorem dX3_init_4 : decode cX3_init 4 = .ok (.aload_n 0, 1) := by decide +kernel
theorem dX3_init_5 : decode cX3_init 5 = .ok (.bipush 60, 2) := by decide +kernel
theorem dX3_init_7 : decode cX3_init 7 = .ok (.newarray .int, 2) := by decide +kernel
theorem dX3_init_9 : decode cX3_init 9 = .ok (.putfield 9, 3) := by decide +kernel
theorem dX3_init_12 : decode cX3_init 12 = .ok (.aload_n 0, 1) := by decide +kernel
theorem dX3_init_13 : decode cX3_init 13 = .ok (.iconst 4, 1) := by decide +kernel
theorem dX3_init_14 : decode cX3_init 14 = .ok (.newarray .int, 2) := by decide +kernel
theorem dX3_init_16 : decode cX3_init 16 = .ok (.putfield 15, 3) := by decide +kernel
theorem dX3_init_19 : decode cX3_init 19 = .ok (.aload_n 0, 1) := by decide +kernel
theorem dX3_init_20 : decode cX3_init 20 = .ok (.iconst 3, 1) := by decide +kernel
theorem dX3_init_21 : decode cX3_init 21 = .ok (.newarray .int, 2) := by decide +kernel
theorem dX3_init_23 : decode cX3_init 23 = .ok (.putfield 18, 3) := by decide +kernel
theorem dX3_init_26 : decode cX3_init 26 = .ok (.aload_n 0, 1) := by decide +kernel
theorem dX3_init_27 : decode cX3_init 27 = .ok (.bipush 16, 2) := by decide +kernel
theorem dX3_init_29 : decode cX3_init 29 = .ok (.newarray .int, 2) := by decide +kernel
theorem dX3_init_31 : decode cX3_init 31 = .ok (.putfield 21, 3) := by decide +kernel
theorem dX3_init_34 : decode cX3_init 34 = .ok (.return_, 1) := by decide +kernel
theorem dX3_append_0 : decode cX3_append 0 = .ok (.aload_n 0, 1) := by decide +kernel
theorem dX3_append_1 : decode cX3_append 1 = .ok (.getfield 24, 3) := by decide +kernel
theorem dX3_append_4 : decode cX3_append 4 = .ok (.bipush 60, 2) := by decide +kernel
theorem dX3_append_6 : decode cX3_append 6 = .ok (.if_icmp .lt 5, 3) := by decide +kernel
theorem dX3_append_9 : decode cX3_append 9 = .ok (.iconst 0, 1) := by decide +kernel
theorem dX3_append_10 : decode cX3_append 10 = .ok (.ireturn, 1) := by decide +kernel
theorem dX3_append_11 : decode cX3_append 11 = .ok (.aload_n 0, 1) := by decide +kernel
theorem dX3_append_12 : decode cX3_append 12 = .ok (.getfield 9, 3) := by decide +kernel
theorem dX3_append_15 : decode cX3_append 15 = .ok (.aload_n 0, 1) := by decide +kernel
theorem dX3_append_16 : decode cX3_append 16 = .ok (.getfield 24, 3) := by decide +kernel
theorem dX3_append_19 : decode cX3_append 19 = .ok (.iload_n 1, 1) := by decide +kernel
theorem dX3_append_20 : decode cX3_append 20 = .ok (.iastore, 1) := by decide +kernel
theorem dX3_append_21 : decode cX3_append 21 = .ok (.aload_n 0, 1) := by decide +kernel
theorem dX3_append_22 : decode cX3_append 22 = .ok (.dup, 1) := by decide +kernel
theorem dX3_append_23 : decode cX3_append 23 = .ok (.getfield 24, 3) := by decide +kernel
theorem dX3_append_26 : decode cX3_append 26 = .ok (.iconst 1, 1) := by decide +kernel
theorem dX3_append_27 : decode cX3_append 27 = .ok (.iadd, 1) := by decide +kernel
theorem dX3_append_28 : decode cX3_append 28 = .ok (.putfield 24, 3) := by decide +kernel
theorem dX3_append_31 : decode cX3_append 31 = .ok (.iconst 1, 1) := by decide +kernel
theorem dX3_append_32 : decode cX3_append 32 = .ok (.ireturn, 1) := by decide +kernel
theorem dX3_read_0 : decode cX3_read 0 = .ok (.aload_n 0, 1) := by decide +kernel
theorem dX3_read_1 : decode cX3_read 1 = .ok (.invokevirtual 28, 3) := by decide +kernel
theorem dX3_read_4 : decode cX3_read 4 = .ok (.iconst 0, 1) := by decide +kernel
theorem dX3_read_5 : decode cX3_read 5 = .ok (.istore_n 1, 1) := by decide +kernel
theorem dX3_read_6 : decode cX3_read 6 = .ok (.iload_n 1, 1) := by decide +kernel
theorem dX3_read_7 : decode cX3_read 7 = .ok (.aload_n 0, 1) := by decide +kernel
theorem dX3_read_8 : decode cX3_read 8 = .ok (.getfield 24, 3) := by decide +kernel
theorem dX3_read_11 : decode cX3_read 11 = .ok (.if_icmp .ge 104, 3) := by decide +kernel
theorem dX3_read_14 : decode cX3_read 14 = .ok (.aload_n 0, 1) := by decide +kernel
theorem dX3_read_15 : decode cX3_read 15 = .ok (.invokevirtual 31, 3) := by decide +kernel
theorem dX3_read_18 : decode cX3_read 18 = .ok (.ifCond .ne 22, 3) := by decide +kernel
theorem dX3_read_21 : decode cX3_read 21 = .ok (.aload_n 0, 1) := by decide +kernel
theorem dX3_read_22 : decode cX3_read 22 = .ok (.invokevirtual 35, 3) := by decide +kernel
theorem dX3_read_25 : decode cX3_read 25 = .ok (.ifCond .eq 19, 3) := by decide +kernel
theorem dX3_read_28 : decode cX3_read 28 = .ok (.aload_n 0, 1) := by decide +kernel
theorem dX3_read_29 : decode cX3_read 29 = .ok (.getfield 9, 3) := by decide +kernel
theorem dX3_read_32 : decode cX3_read 32 = .ok (.iload_n 1, 1) := by decide +kernel
theorem dX3_read_33 : decode cX3_read 33 = .ok (.iaload, 1) := by decide +kernel
theorem dX3_read_34 : decode cX3_read 34 = .ok (.invokestatic 38, 3) := by decide +kernel
theorem dX3_read_37 : decode cX3_read 37 = .ok (.ifCond .eq 7, 3) := by decide +kernel
theorem dX3_read_40 : decode cX3_read 40 = .ok (.iconst 1, 1) := by decide +kernel
theorem dX3_read_41 : decode cX3_read 41 = .ok (.goto 4, 3) := by decide +kernel
theorem dX3_read_44 : decode cX3_read 44 = .ok (.iconst 0, 1) := by decide +kernel
theorem dX3_read_45 : decode cX3_read 45 = .ok (.istore_n 2, 1) := by decide +kernel
theorem dX3_read_46 : decode cX3_read 46 = .ok (.iload_n 2, 1) := by decide +kernel
theorem dX3_read_47 : decode cX3_read 47 = .ok (.ifCond .eq 12, 3) := by decide +kernel
theorem dX3_read_50 : decode cX3_read 50 = .ok (.aload_n 0, 1) := by decide +kernel
theorem dX3_read_51 : decode cX3_read 51 = .ok (.getfield 42, 3) := by decide +kernel
theorem dX3_read_54 : decode cX3_read 54 = .ok (.iconst 1, 1) := by decide +kernel
theorem dX3_read_55 : decode cX3_read 55 = .ok (.isub, 1) := by decide +kernel
theorem dX3_read_56 : decode cX3_read 56 = .ok (.goto 7, 3) := by decide +kernel
theorem dX3_read_59 : decode cX3_read 59 = .ok (.aload_n 0, 1) := by decide +kernel
theorem dX3_read_60 : decode cX3_read 60 = .ok (.getfield 42, 3) := by decide +kernel
theorem dX3_read_63 : decode cX3_read 63 = .ok (.istore_n 3, 1) := by decide +kernel
theorem dX3_read_64 : decode cX3_read 64 = .ok (.iload_n 2, 1) := by decide +kernel
theorem dX3_read_65 : decode cX3_read 65 = .ok (.ifCond .eq 16, 3) := by decide +kernel
theorem dX3_read_68 : decode cX3_read 68 = .ok (.aload_n 0, 1) := by decide +kernel
theorem dX3_read_69 : decode cX3_read 69 = .ok (.aload_n 0, 1) := by decide +kernel
theorem dX3_read_70 : decode cX3_read 70 = .ok (.getfield 9, 3) := by decide +kernel
theorem dX3_read_73 : decode cX3_read 73 = .ok (.iload_n 1, 1) := by decide +kernel
theorem dX3_read_74 : decode cX3_read 74 = .ok (.iaload, 1) := by decide +kernel
theorem dX3_read_75 : decode cX3_read 75 = .ok (.invokevirtual 45, 3) := by decide +kernel
theorem dX3_read_78 : decode cX3_read 78 = .ok (.goto 13, 3) := by decide +kernel
theorem dX3_read_81 : decode cX3_read 81 = .ok (.aload_n 0, 1) := by decide +kernel
theorem dX3_read_82 : decode cX3_read 82 = .ok (.aload_n 0, 1) := by decide +kernel
theorem dX3_read_83 : decode cX3_read 83 = .ok (.getfield 9, 3) := by decide +kernel
theorem dX3_read_86 : decode cX3_read 86 = .ok (.iload_n 1, 1) := by decide +kernel
theorem dX3_read_87 : decode cX3_read 87 = .ok (.iaload, 1) := by decide +kernel
theorem dX3_read_88 : decode cX3_read 88 = .ok (.invokevirtual 48, 3) := by decide +kernel
theorem dX3_read_91 : decode cX3_read 91 = .ok (.istore 4, 2) := by decide +kernel
theorem dX3_read_93 : decode cX3_read 93 = .ok (.iload 4, 2) := by decide +kernel
theorem dX3_read_95 : decode cX3_read 95 = .ok (.ifCond .ne 14, 3) := by decide +kernel
theorem dX3_read_98 : decode cX3_read 98 = .ok (.aload_n 0, 1) := by decide +kernel
theorem dX3_read_99 : decode cX3_read 99 = .ok (.iload_n 1, 1) := by decide +kernel
theorem dX3_read_100 : decode cX3_read 100 = .ok (.putfield 51, 3) := by decide +kernel
theorem dX3_read_103 : decode cX3_read 103 = .ok (.aload_n 0, 1) := by decide +kernel
theorem dX3_read_104 : decode cX3_read 104 = .ok (.iload_n 3, 1) := by decide +kernel
theorem dX3_read_105 : decode cX3_read 105 = .ok (.putfield 54, 3) := by decide +kernel
theorem dX3_read_108 : decode cX3_read 108 = .ok (.return_, 1) := by decide +kernel
theorem dX3_read_109 : decode cX3_read 109 = .ok (.iinc 1 1, 3) := by decide +kernel
theorem dX3_read_112 : decode cX3_read 112 = .ok (.goto (-106), 3) := by decide +kernel
theorem dX3_read_115 : decode cX3_read 115 = .ok (.aload_n 0, 1) := by decide +kernel
theorem dX3_read_116 : decode cX3_read 116 = .ok (.aload_n 0, 1) := by decide +kernel
theorem dX3_read_117 : decode cX3_read 117 = .ok (.invokevirtual 31, 3) := by decide +kernel
theorem dX3_read_120 : decode cX3_read 120 = .ok (.ifCond .eq 10, 3) := by decide +kernel
theorem dX3_read_123 : decode cX3_read 123 = .ok (.aload_n 0, 1) := by decide +kernel
theorem dX3_read_124 : decode cX3_read 124 = .ok (.getfield 24, 3) := by decide +kernel
theorem dX3_read_127 : decode cX3_read 127 = .ok (.goto 5, 3) := by decide +kernel
theorem dX3_read_130 : decode cX3_read 130 = .ok (.bipush (-9), 2) := by decide +kernel
theorem dX3_read_132 : decode cX3_read 132 = .ok (.putfield 51, 3) := by decide +kernel
theorem dX3_read_135 : decode cX3_read 135 = .ok (.aload_n 0, 1) := by decide +kernel
theorem dX3_read_136 : decode cX3_read 136 = .ok (.aload_n 0, 1) := by decide +kernel
theorem dX3_read_137 : decode cX3_read 137 = .ok (.invokevirtual 31, 3) := by decide +kernel
theorem dX3_read_140 : decode cX3_read 140 = .ok (.ifCond .eq 12, 3) := by decide +kernel
theorem dX3_read_143 : decode cX3_read 143 = .ok (.aload_n 0, 1) := by decide +kernel
theorem dX3_read_144 : decode cX3_read 144 = .ok (.getfield 42, 3) := by decide +kernel
theorem dX3_read_147 : decode cX3_read 147 = .ok (.iconst 1, 1) := by decide +kernel
theorem dX3_read_148 : decode cX3_read 148 = .ok (.isub, 1) := by decide +kernel
theorem dX3_read_149 : decode cX3_read 149 = .ok (.goto 5, 3) := by decide +kernel
theorem dX3_read_152 : decode cX3_read 152 = .ok (.bipush (-9), 2) := by decide +kernel
theorem dX3_read_154 : decode cX3_read 154 = .ok (.putfield 54, 3) := by decide +kernel
theorem dX3_read_157 : decode cX3_read 157 = .ok (.return_, 1) := by decide +kernel
theorem dX3_beginReading_0 : decode cX3_beginReading 0 = .ok (.aload_n 0, 1) := by decide +kernel
theorem dX3_beginReading_1 : decode cX3_beginReading 1 = .ok (.iconst 0, 1) := by decide +kernel
theorem dX3_beginReading_2 : decode cX3_beginReading 2 = .ok (.putfield 57, 3) := by decide +kernel
theorem dX3_beginReading_5 : decode cX3_beginReading 5 = .ok (.aload_n 0, 1) := by decide +kernel
theorem dX3_beginReading_6 : decode cX3_beginReading 6 = .ok (.iconst 0, 1) := by decide +kernel
theorem dX3_beginReading_7 : decode cX3_beginReading 7 = .ok (.putfield 60, 3) := by decide +kernel
theorem dX3_beginReading_10 : decode cX3_beginReading 10 = .ok (.aload_n 0, 1) := by decide +kernel
theorem dX3_beginReading_11 : decode cX3_beginReading 11 = .ok (.iconst 0, 1) := by decide +kernel
theorem dX3_beginReading_12 : decode cX3_beginReading 12 = .ok (.putfield 63, 3) := by decide +kernel
theorem dX3_beginReading_15 : decode cX3_beginReading 15 = .ok (.aload_n 0, 1) := by decide +kernel
theorem dX3_beginReading_16 : decode cX3_beginReading 16 = .ok (.iconst 0, 1) := by decide +kernel
theorem dX3_beginReading_17 : decode cX3_beginReading 17 = .ok (.putfield 42, 3) := by decide +kernel
theorem dX3_beginReading_20 : decode cX3_beginReading 20 = .ok (.aload_n 0, 1) := by decide +kernel
theorem dX3_beginReading_21 : decode cX3_beginReading 21 = .ok (.iconst 0, 1) := by decide +kernel
theorem dX3_beginReading_22 : decode cX3_beginReading 22 = .ok (.putfield 66, 3) := by decide +kernel
theorem dX3_beginReading_25 : decode cX3_beginReading 25 = .ok (.aload_n 0, 1) := by decide +kernel
theorem dX3_beginReading_26 : decode cX3_beginReading 26 = .ok (.iconst 0, 1) := by decide +kernel
theorem dX3_beginReading_27 : decode cX3_beginReading 27 = .ok (.putfield 69, 3) := by decide +kernel
theorem dX3_beginReading_30 : decode cX3_beginReading 30 = .ok (.return_, 1) := by decide +kernel
theorem dX3_isOfLetters_0 : decode cX3_isOfLetters 0 = .ok (.aload_n 0, 1) := by decide +kernel
theorem dX3_isOfLetters_1 : decode cX3_isOfLetters 1 = .ok (.getfield 66, 3) := by decide +kernel
theorem dX3_isOfLetters_4 : decode cX3_isOfLetters 4 = .ok (.iconst 1, 1) := by decide +kernel
theorem dX3_isOfLetters_5 : decode cX3_isOfLetters 5 = .ok (.if_icmp .eq 11, 3) := by decide +kernel
theorem dX3_isOfLetters_8 : decode cX3_isOfLetters 8 = .ok (.aload_n 0, 1) := by decide +kernel
theorem dX3_isOfLetters_9 : decode cX3_isOfLetters 9 = .ok (.getfield 66, 3) := by decide +kernel
theorem dX3_isOfLetters_12 : decode cX3_isOfLetters 12 = .ok (.iconst 2, 1) := by decide +kernel
theorem dX3_isOfLetters_13 : decode cX3_isOfLetters 13 = .ok (.if_icmp .ne 7, 3) := by decide +kernel
theorem dX3_isOfLetters_16 : decode cX3_isOfLetters 16 = .ok (.iconst 1, 1) := by decide +kernel
theorem dX3_isOfLetters_17 : decode cX3_isOfLetters 17 = .ok (.goto 4, 3) := by decide +kernel
theorem dX3_isOfLetters_20 : decode cX3_isOfLetters 20 = .ok (.iconst 0, 1) := by decide +kernel
theorem dX3_isOfLetters_21 : decode cX3_isOfLetters 21 = .ok (.ireturn, 1) := by decide +kernel
theorem dX3_needsMore_0 : decode cX3_needsMore 0 = .ok (.aload_n 0, 1) := by decide +kernel
theorem dX3_needsMore_1 : decode cX3_needsMore 1 = .ok (.invokevirtual 35, 3) := by decide +kernel
theorem dX3_needsMore_4 : decode cX3_needsMore 4 = .ok (.ifCond .eq 18, 3) := by decide +kernel
theorem dX3_needsMore_7 : decode cX3_needsMore 7 = .ok (.aload_n 0, 1) := by decide +kernel
theorem dX3_needsMore_8 : decode cX3_needsMore 8 = .ok (.getfield 69, 3) := by decide +kernel
theorem dX3_needsMore_11 : decode cX3_needsMore 11 = .ok (.ifCond .ne 7, 3) := by decide +kernel
theorem dX3_needsMore_14 : decode cX3_needsMore 14 = .ok (.iconst 1, 1) := by decide +kernel
theorem dX3_needsMore_15 : decode cX3_needsMore 15 = .ok (.goto 28, 3) := by decide +kernel
theorem dX3_needsMore_18 : decode cX3_needsMore 18 = .ok (.iconst 0, 1) := by decide +kernel
theorem dX3_needsMore_19 : decode cX3_needsMore 19 = .ok (.goto 24, 3) := by decide +kernel
theorem dX3_needsMore_22 : decode cX3_needsMore 22 = .ok (.aload_n 0, 1) := by decide +kernel
theorem dX3_needsMore_23 : decode cX3_needsMore 23 = .ok (.getfield 66, 3) := by decide +kernel
theorem dX3_needsMore_26 : decode cX3_needsMore 26 = .ok (.iconst 3, 1) := by decide +kernel
theorem dX3_needsMore_27 : decode cX3_needsMore 27 = .ok (.if_icmp .ne 15, 3) := by decide +kernel
theorem dX3_needsMore_30 : decode cX3_needsMore 30 = .ok (.aload_n 0, 1) := by decide +kernel
theorem dX3_needsMore_31 : decode cX3_needsMore 31 = .ok (.getfield 69, 3) := by decide +kernel
theorem dX3_needsMore_34 : decode cX3_needsMore 34 = .ok (.iconst 4, 1) := by decide +kernel
theorem dX3_needsMore_35 : decode cX3_needsMore 35 = .ok (.if_icmp .ge 7, 3) := by decide +kernel
theorem dX3_needsMore_38 : decode cX3_needsMore 38 = .ok (.iconst 1, 1) := by decide +kernel
theorem dX3_needsMore_39 : decode cX3_needsMore 39 = .ok (.goto 4, 3) := by decide +kernel
theorem dX3_needsMore_42 : decode cX3_needsMore 42 = .ok (.iconst 0, 1) := by decide +kernel
theorem dX3_needsMore_43 : decode cX3_needsMore 43 = .ok (.ireturn, 1) := by decide +kernel
theorem dX3_beginPart_0 : decode cX3_beginPart 0 = .ok (.iload_n 1, 1) := by decide +kernel
theorem dX3_beginPart_1 : decode cX3_beginPart 1 = .ok (.bipush 82, 2) := by decide +kernel
theorem dX3_beginPart_3 : decode cX3_beginPart 3 = .ok (.if_icmp .ne 39, 3) := by decide +kernel
theorem dX3_beginPart_6 : decode cX3_beginPart 6 = .ok (.aload_n 0, 1) := by decide +kernel
theorem dX3_beginPart_7 : decode cX3_beginPart 7 = .ok (.getfield 57, 3) := by decide +kernel
theorem dX3_beginPart_10 : decode cX3_beginPart 10 = .ok (.iconst 4, 1) := by decide +kernel
theorem dX3_beginPart_11 : decode cX3_beginPart 11 = .ok (.if_icmp .ge 31, 3) := by decide +kernel
theorem dX3_beginPart_14 : decode cX3_beginPart 14 = .ok (.aload_n 0, 1) := by decide +kernel
theorem dX3_beginPart_15 : decode cX3_beginPart 15 = .ok (.getfield 15, 3) := by decide +kernel
theorem dX3_beginPart_18 : decode cX3_beginPart 18 = .ok (.aload_n 0, 1) := by decide +kernel
theorem dX3_beginPart_19 : decode cX3_beginPart 19 = .ok (.getfield 57, 3) := by decide +kernel
theorem dX3_beginPart_22 : decode cX3_beginPart 22 = .ok (.iconst 0, 1) := by decide +kernel
theorem dX3_beginPart_23 : decode cX3_beginPart 23 = .ok (.iastore, 1) := by decide +kernel
theorem dX3_beginPart_24 : decode cX3_beginPart 24 = .ok (.aload_n 0, 1) := by decide +kernel
theorem dX3_beginPart_25 : decode cX3_beginPart 25 = .ok (.dup, 1) := by decide +kernel
theorem dX3_beginPart_26 : decode cX3_beginPart 26 = .ok (.getfield 57, 3) := by decide +kernel
theorem dX3_beginPart_29 : decode cX3_beginPart 29 = .ok (.iconst 1, 1) := by decide +kernel
theorem dX3_beginPart_30 : decode cX3_beginPart 30 = .ok (.iadd, 1) := by decide +kernel
theorem dX3_beginPart_31 : decode cX3_beginPart 31 = .ok (.putfield 57, 3) := by decide +kernel
theorem dX3_beginPart_34 : decode cX3_beginPart 34 = .ok (.aload_n 0, 1) := by decide +kernel
theorem dX3_beginPart_35 : decode cX3_beginPart 35 = .ok (.iconst 1, 1) := by decide +kernel
theorem dX3_beginPart_36 : decode cX3_beginPart 36 = .ok (.putfield 66, 3) := by decide +kernel
theorem dX3_beginPart_39 : decode cX3_beginPart 39 = .ok (.goto 79, 3) := by decide +kernel
theorem dX3_beginPart_42 : decode cX3_beginPart 42 = .ok (.iload_n 1, 1) := by decide +kernel
theorem dX3_beginPart_43 : decode cX3_beginPart 43 = .ok (.bipush 69, 2) := by decide +kernel
theorem dX3_beginPart_45 : decode cX3_beginPart 45 = .ok (.if_icmp .ne 39, 3) := by decide +kernel
theorem dX3_beginPart_48 : decode cX3_beginPart 48 = .ok (.aload_n 0, 1) := by decide +kernel
theorem dX3_beginPart_49 : decode cX3_beginPart 49 = .ok (.getfield 60, 3) := by decide +kernel
theorem dX3_beginPart_52 : decode cX3_beginPart 52 = .ok (.iconst 3, 1) := by decide +kernel
theorem dX3_beginPart_53 : decode cX3_beginPart 53 = .ok (.if_icmp .ge 31, 3) := by decide +kernel
theorem dX3_beginPart_56 : decode cX3_beginPart 56 = .ok (.aload_n 0, 1) := by decide +kernel
theorem dX3_beginPart_57 : decode cX3_beginPart 57 = .ok (.getfield 18, 3) := by decide +kernel
theorem dX3_beginPart_60 : decode cX3_beginPart 60 = .ok (.aload_n 0, 1) := by decide +kernel
theorem dX3_beginPart_61 : decode cX3_beginPart 61 = .ok (.getfield 60, 3) := by decide +kernel
theorem dX3_beginPart_64 : decode cX3_beginPart 64 = .ok (.iconst 0, 1) := by decide +kernel
theorem dX3_beginPart_65 : decode cX3_beginPart 65 = .ok (.iastore, 1) := by decide +kernel
theorem dX3_beginPart_66 : decode cX3_beginPart 66 = .ok (.aload_n 0, 1) := by decide +kernel
theorem dX3_beginPart_67 : decode cX3_beginPart 67 = .ok (.dup, 1) := by decide +kernel
theorem dX3_beginPart_68 : decode cX3_beginPart 68 = .ok (.getfield 60, 3) := by decide +kernel
theorem dX3_beginPart_71 : decode cX3_beginPart 71 = .ok (.iconst 1, 1) := by decide +kernel
theorem dX3_beginPart_72 : decode cX3_beginPart 72 = .ok (.iadd, 1) := by decide +kernel
theorem dX3_beginPart_73 : decode cX3_beginPart 73 = .ok (.putfield 60, 3) := by decide +kernel
theorem dX3_beginPart_76 : decode cX3_beginPart 76 = .ok (.aload_n 0, 1) := by decide +kernel
theorem dX3_beginPart_77 : decode cX3_beginPart 77 = .ok (.iconst 2, 1) := by decide +kernel
theorem dX3_beginPart_78 : decode cX3_beginPart 78 = .ok (.putfield 66, 3) := by decide +kernel
theorem dX3_beginPart_81 : decode cX3_beginPart 81 = .ok (.goto 37, 3) := by decide +kernel
theorem dX3_beginPart_84 : decode cX3_beginPart 84 = .ok (.iload_n 1, 1) := by decide +kernel
theorem dX3_beginPart_85 : decode cX3_beginPart 85 = .ok (.bipush 67, 2) := by decide +kernel
theorem dX3_beginPart_87 : decode cX3_beginPart 87 = .ok (.if_icmp .ne 29, 3) := by decide +kernel
theorem dX3_beginPart_90 : decode cX3_beginPart 90 = .ok (.aload_n 0, 1) := by decide +kernel
theorem dX3_beginPart_91 : decode cX3_beginPart 91 = .ok (.getfield 63, 3) := by decide +kernel
theorem dX3_beginPart_94 : decode cX3_beginPart 94 = .ok (.iconst 4, 1) := by decide +kernel
theorem dX3_beginPart_95 : decode cX3_beginPart 95 = .ok (.if_icmp .ge 21, 3) := by decide +kernel
theorem dX3_beginPart_98 : decode cX3_beginPart 98 = .ok (.aload_n 0, 1) := by decide +kernel
theorem dX3_beginPart_99 : decode cX3_beginPart 99 = .ok (.dup, 1) := by decide +kernel
theorem dX3_beginPart_100 : decode cX3_beginPart 100 = .ok (.getfield 63, 3) := by decide +kernel
theorem dX3_beginPart_103 : decode cX3_beginPart 103 = .ok (.iconst 1, 1) := by decide +kernel
theorem dX3_beginPart_104 : decode cX3_beginPart 104 = .ok (.iadd, 1) := by decide +kernel
theorem dX3_beginPart_105 : decode cX3_beginPart 105 = .ok (.putfield 63, 3) := by decide +kernel
theorem dX3_beginPart_108 : decode cX3_beginPart 108 = .ok (.aload_n 0, 1) := by decide +kernel
theorem dX3_beginPart_109 : decode cX3_beginPart 109 = .ok (.iconst 3, 1) := by decide +kernel
theorem dX3_beginPart_110 : decode cX3_beginPart 110 = .ok (.putfield 66, 3) := by decide +kernel
theorem dX3_beginPart_113 : decode cX3_beginPart 113 = .ok (.goto 5, 3) := by decide +kernel
theorem dX3_beginPart_116 : decode cX3_beginPart 116 = .ok (.iconst 0, 1) := by decide +kernel
theorem dX3_beginPart_117 : decode cX3_beginPart 117 = .ok (.ireturn, 1) := by decide +kernel
theorem dX3_beginPart_118 : decode cX3_beginPart 118 = .ok (.aload_n 0, 1) := by decide +kernel
theorem dX3_beginPart_119 : decode cX3_beginPart 119 = .ok (.iconst 0, 1) := by decide +kernel
theorem dX3_beginPart_120 : decode cX3_beginPart 120 = .ok (.putfield 69, 3) := by decide +kernel
theorem dX3_beginPart_123 : decode cX3_beginPart 123 = .ok (.aload_n 0, 1) := by decide +kernel
theorem dX3_beginPart_124 : decode cX3_beginPart 124 = .ok (.dup, 1) := by decide +kernel
theorem dX3_beginPart_125 : decode cX3_beginPart 125 = .ok (.getfield 42, 3) := by decide +kernel
theorem dX3_beginPart_128 : decode cX3_beginPart 128 = .ok (.iconst 1, 1) := by decide +kernel
theorem dX3_beginPart_129 : decode cX3_beginPart 129 = .ok (.iadd, 1) := by decide +kernel
theorem dX3_beginPart_130 : decode cX3_beginPart 130 = .ok (.putfield 42, 3) := by decide +kernel
theorem dX3_beginPart_133 : decode cX3_beginPart 133 = .ok (.iconst 1, 1) := by decide +kernel
theorem dX3_beginPart_134 : decode cX3_beginPart 134 = .ok (.ireturn, 1) := by decide +kernel
theorem dX3_goOnWith_0 : decode cX3_goOnWith 0 = .ok (.aload_n 0, 1) := by decide +kernel
theorem dX3_goOnWith_1 : decode cX3_goOnWith 1 = .ok (.getfield 66, 3) := by decide +kernel
theorem dX3_goOnWith_4 : decode cX3_goOnWith 4 = .ok (.iconst 1, 1) := by decide +kernel
theorem dX3_goOnWith_5 : decode cX3_goOnWith 5 = .ok (.if_icmp .ne 23, 3) := by decide +kernel
theorem dX3_goOnWith_8 : decode cX3_goOnWith 8 = .ok (.aload_n 0, 1) := by decide +kernel
theorem dX3_goOnWith_9 : decode cX3_goOnWith 9 = .ok (.aload_n 0, 1) := by decide +kernel
theorem dX3_goOnWith_10 : decode cX3_goOnWith 10 = .ok (.getfield 15, 3) := by decide +kernel
theorem dX3_goOnWith_13 : decode cX3_goOnWith 13 = .ok (.aload_n 0, 1) := by decide +kernel
theorem dX3_goOnWith_14 : decode cX3_goOnWith 14 = .ok (.getfield 57, 3) := by decide +kernel
theorem dX3_goOnWith_17 : decode cX3_goOnWith 17 = .ok (.iconst 1, 1) := by decide +kernel
theorem dX3_goOnWith_18 : decode cX3_goOnWith 18 = .ok (.isub, 1) := by decide +kernel
theorem dX3_goOnWith_19 : decode cX3_goOnWith 19 = .ok (.iconst 4, 1) := by decide +kernel
theorem dX3_goOnWith_20 : decode cX3_goOnWith 20 = .ok (.iload_n 1, 1) := by decide +kernel
theorem dX3_goOnWith_21 : decode cX3_goOnWith 21 = .ok (.invokevirtual 72, 3) := by decide +kernel
theorem dX3_goOnWith_24 : decode cX3_goOnWith 24 = .ok (.istore_n 2, 1) := by decide +kernel
theorem dX3_goOnWith_25 : decode cX3_goOnWith 25 = .ok (.goto 37, 3) := by decide +kernel
theorem dX3_goOnWith_28 : decode cX3_goOnWith 28 = .ok (.aload_n 0, 1) := by decide +kernel
theorem dX3_goOnWith_29 : decode cX3_goOnWith 29 = .ok (.getfield 66, 3) := by decide +kernel
theorem dX3_goOnWith_32 : decode cX3_goOnWith 32 = .ok (.iconst 2, 1) := by decide +kernel
theorem dX3_goOnWith_33 : decode cX3_goOnWith 33 = .ok (.if_icmp .ne 23, 3) := by decide +kernel
theorem dX3_goOnWith_36 : decode cX3_goOnWith 36 = .ok (.aload_n 0, 1) := by decide +kernel
theorem dX3_goOnWith_37 : decode cX3_goOnWith 37 = .ok (.aload_n 0, 1) := by decide +kernel
theorem dX3_goOnWith_38 : decode cX3_goOnWith 38 = .ok (.getfield 18, 3) := by decide +kernel
theorem dX3_goOnWith_41 : decode cX3_goOnWith 41 = .ok (.aload_n 0, 1) := by decide +kernel
theorem dX3_goOnWith_42 : decode cX3_goOnWith 42 = .ok (.getfield 60, 3) := by decide +kernel
theorem dX3_goOnWith_45 : decode cX3_goOnWith 45 = .ok (.iconst 1, 1) := by decide +kernel
theorem dX3_goOnWith_46 : decode cX3_goOnWith 46 = .ok (.isub, 1) := by decide +kernel
theorem dX3_goOnWith_47 : decode cX3_goOnWith 47 = .ok (.iconst 2, 1) := by decide +kernel
theorem dX3_goOnWith_48 : decode cX3_goOnWith 48 = .ok (.iload_n 1, 1) := by decide +kernel
theorem dX3_goOnWith_49 : decode cX3_goOnWith 49 = .ok (.invokevirtual 72, 3) := by decide +kernel
theorem dX3_goOnWith_52 : decode cX3_goOnWith 52 = .ok (.istore_n 2, 1) := by decide +kernel
theorem dX3_goOnWith_53 : decode cX3_goOnWith 53 = .ok (.goto 9, 3) := by decide +kernel
theorem dX3_goOnWith_56 : decode cX3_goOnWith 56 = .ok (.aload_n 0, 1) := by decide +kernel
theorem dX3_goOnWith_57 : decode cX3_goOnWith 57 = .ok (.iload_n 1, 1) := by decide +kernel
theorem dX3_goOnWith_58 : decode cX3_goOnWith 58 = .ok (.invokevirtual 76, 3) := by decide +kernel
theorem dX3_goOnWith_61 : decode cX3_goOnWith 61 = .ok (.istore_n 2, 1) := by decide +kernel
theorem dX3_goOnWith_62 : decode cX3_goOnWith 62 = .ok (.aload_n 0, 1) := by decide +kernel
theorem dX3_goOnWith_63 : decode cX3_goOnWith 63 = .ok (.dup, 1) := by decide +kernel
theorem dX3_goOnWith_64 : decode cX3_goOnWith 64 = .ok (.getfield 69, 3) := by decide +kernel
theorem dX3_goOnWith_67 : decode cX3_goOnWith 67 = .ok (.iload_n 2, 1) := by decide +kernel
theorem dX3_goOnWith_68 : decode cX3_goOnWith 68 = .ok (.ifCond .eq 7, 3) := by decide +kernel
theorem dX3_goOnWith_71 : decode cX3_goOnWith 71 = .ok (.iconst 1, 1) := by decide +kernel
theorem dX3_goOnWith_72 : decode cX3_goOnWith 72 = .ok (.goto 4, 3) := by decide +kernel
theorem dX3_goOnWith_75 : decode cX3_goOnWith 75 = .ok (.iconst 0, 1) := by decide +kernel
theorem dX3_goOnWith_76 : decode cX3_goOnWith 76 = .ok (.iadd, 1) := by decide +kernel
theorem dX3_goOnWith_77 : decode cX3_goOnWith 77 = .ok (.putfield 69, 3) := by decide +kernel
theorem dX3_goOnWith_80 : decode cX3_goOnWith 80 = .ok (.iload_n 2, 1) := by decide +kernel
theorem dX3_goOnWith_81 : decode cX3_goOnWith 81 = .ok (.ireturn, 1) := by decide +kernel
theorem dX3_addLetter_0 : decode cX3_addLetter 0 = .ok (.aload_n 0, 1) := by decide +kernel
theorem dX3_addLetter_1 : decode cX3_addLetter 1 = .ok (.getfield 69, 3) := by decide +kernel
theorem dX3_addLetter_4 : decode cX3_addLetter 4 = .ok (.iload_n 3, 1) := by decide +kernel
theorem dX3_addLetter_5 : decode cX3_addLetter 5 = .ok (.if_icmp .ge 21, 3) := by decide +kernel
theorem dX3_addLetter_8 : decode cX3_addLetter 8 = .ok (.iload 4, 2) := by decide +kernel
theorem dX3_addLetter_10 : decode cX3_addLetter 10 = .ok (.invokestatic 38, 3) := by decide +kernel
theorem dX3_addLetter_13 : decode cX3_addLetter 13 = .ok (.ifCond .eq 13, 3) := by decide +kernel
theorem dX3_addLetter_16 : decode cX3_addLetter 16 = .ok (.iload_n 2, 1) := by decide +kernel
theorem dX3_addLetter_17 : decode cX3_addLetter 17 = .ok (.ifCond .lt 9, 3) := by decide +kernel
theorem dX3_addLetter_20 : decode cX3_addLetter 20 = .ok (.iload_n 2, 1) := by decide +kernel
theorem dX3_addLetter_21 : decode cX3_addLetter 21 = .ok (.aload_n 1, 1) := by decide +kernel
theorem dX3_addLetter_22 : decode cX3_addLetter 22 = .ok (.arraylength, 1) := by decide +kernel
theorem dX3_addLetter_23 : decode cX3_addLetter 23 = .ok (.if_icmp .lt 5, 3) := by decide +kernel
theorem dX3_addLetter_26 : decode cX3_addLetter 26 = .ok (.iconst 0, 1) := by decide +kernel
theorem dX3_addLetter_27 : decode cX3_addLetter 27 = .ok (.ireturn, 1) := by decide +kernel
theorem dX3_addLetter_28 : decode cX3_addLetter 28 = .ok (.aload_n 1, 1) := by decide +kernel
theorem dX3_addLetter_29 : decode cX3_addLetter 29 = .ok (.iload_n 2, 1) := by decide +kernel
theorem dX3_addLetter_30 : decode cX3_addLetter 30 = .ok (.bipush 10, 2) := by decide +kernel
theorem dX3_addLetter_32 : decode cX3_addLetter 32 = .ok (.aload_n 1, 1) := by decide +kernel
theorem dX3_addLetter_33 : decode cX3_addLetter 33 = .ok (.iload_n 2, 1) := by decide +kernel
theorem dX3_addLetter_34 : decode cX3_addLetter 34 = .ok (.iaload, 1) := by decide +kernel
theorem dX3_addLetter_35 : decode cX3_addLetter 35 = .ok (.imul, 1) := by decide +kernel
theorem dX3_addLetter_36 : decode cX3_addLetter 36 = .ok (.iload 4, 2) := by decide +kernel
theorem dX3_addLetter_38 : decode cX3_addLetter 38 = .ok (.invokestatic 79, 3) := by decide +kernel
theorem dX3_addLetter_41 : decode cX3_addLetter 41 = .ok (.iadd, 1) := by decide +kernel
theorem dX3_addLetter_42 : decode cX3_addLetter 42 = .ok (.iastore, 1) := by decide +kernel
theorem dX3_addLetter_43 : decode cX3_addLetter 43 = .ok (.iconst 1, 1) := by decide +kernel
theorem dX3_addLetter_44 : decode cX3_addLetter 44 = .ok (.ireturn, 1) := by decide +kernel
theorem dX3_addSign_0 : decode cX3_addSign 0 = .ok (.iload_n 1, 1) := by decide +kernel
theorem dX3_addSign_1 : decode cX3_addSign 1 = .ok (.invokestatic 79, 3) := by decide +kernel
theorem dX3_addSign_4 : decode cX3_addSign 4 = .ok (.istore_n 2, 1) := by decide +kernel
theorem dX3_addSign_5 : decode cX3_addSign 5 = .ok (.aload_n 0, 1) := by decide +kernel
theorem dX3_addSign_6 : decode cX3_addSign 6 = .ok (.getfield 63, 3) := by decide +kernel
theorem dX3_addSign_9 : decode cX3_addSign 9 = .ok (.iconst 1, 1) := by decide +kernel
theorem dX3_addSign_10 : decode cX3_addSign 10 = .ok (.isub, 1) := by decide +kernel
theorem dX3_addSign_11 : decode cX3_addSign 11 = .ok (.iconst 4, 1) := by decide +kernel
theorem dX3_addSign_12 : decode cX3_addSign 12 = .ok (.imul, 1) := by decide +kernel
theorem dX3_addSign_13 : decode cX3_addSign 13 = .ok (.aload_n 0, 1) := by decide +kernel
theorem dX3_addSign_14 : decode cX3_addSign 14 = .ok (.getfield 69, 3) := by decide +kernel
theorem dX3_addSign_17 : decode cX3_addSign 17 = .ok (.iadd, 1) := by decide +kernel
theorem dX3_addSign_18 : decode cX3_addSign 18 = .ok (.istore_n 3, 1) := by decide +kernel
theorem dX3_addSign_19 : decode cX3_addSign 19 = .ok (.aload_n 0, 1) := by decide +kernel
theorem dX3_addSign_20 : decode cX3_addSign 20 = .ok (.getfield 69, 3) := by decide +kernel
theorem dX3_addSign_23 : decode cX3_addSign 23 = .ok (.iload_n 2, 1) := by decide +kernel
theorem dX3_addSign_24 : decode cX3_addSign 24 = .ok (.invokestatic 83, 3) := by decide +kernel
theorem dX3_addSign_27 : decode cX3_addSign 27 = .ok (.ifCond .eq 16, 3) := by decide +kernel
theorem dX3_addSign_30 : decode cX3_addSign 30 = .ok (.iload_n 3, 1) := by decide +kernel
theorem dX3_addSign_31 : decode cX3_addSign 31 = .ok (.ifCond .lt 12, 3) := by decide +kernel
theorem dX3_addSign_34 : decode cX3_addSign 34 = .ok (.iload_n 3, 1) := by decide +kernel
theorem dX3_addSign_35 : decode cX3_addSign 35 = .ok (.aload_n 0, 1) := by decide +kernel
theorem dX3_addSign_36 : decode cX3_addSign 36 = .ok (.getfield 21, 3) := by decide +kernel
theorem dX3_addSign_39 : decode cX3_addSign 39 = .ok (.arraylength, 1) := by decide +kernel
theorem dX3_addSign_40 : decode cX3_addSign 40 = .ok (.if_icmp .lt 5, 3) := by decide +kernel
theorem dX3_addSign_43 : decode cX3_addSign 43 = .ok (.iconst 0, 1) := by decide +kernel
theorem dX3_addSign_44 : decode cX3_addSign 44 = .ok (.ireturn, 1) := by decide +kernel
theorem dX3_addSign_45 : decode cX3_addSign 45 = .ok (.aload_n 0, 1) := by decide +kernel
theorem dX3_addSign_46 : decode cX3_addSign 46 = .ok (.getfield 21, 3) := by decide +kernel
theorem dX3_addSign_49 : decode cX3_addSign 49 = .ok (.iload_n 3, 1) := by decide +kernel
theorem dX3_addSign_50 : decode cX3_addSign 50 = .ok (.iload_n 2, 1) := by decide +kernel
theorem dX3_addSign_51 : decode cX3_addSign 51 = .ok (.iastore, 1) := by decide +kernel
theorem dX3_addSign_52 : decode cX3_addSign 52 = .ok (.iconst 1, 1) := by decide +kernel
theorem dX3_addSign_53 : decode cX3_addSign 53 = .ok (.ireturn, 1) := by decide +kernel
theorem dX3_isLetter_0 : decode cX3_isLetter 0 = .ok (.iload_n 0, 1) := by decide +kernel
theorem dX3_isLetter_1 : decode cX3_isLetter 1 = .ok (.bipush 97, 2) := by decide +kernel
theorem dX3_isLetter_3 : decode cX3_isLetter 3 = .ok (.if_icmp .lt 13, 3) := by decide +kernel
theorem dX3_isLetter_6 : decode cX3_isLetter 6 = .ok (.iload_n 0, 1) := by decide +kernel
theorem dX3_isLetter_7 : decode cX3_isLetter 7 = .ok (.bipush 101, 2) := by decide +kernel
theorem dX3_isLetter_9 : decode cX3_isLetter 9 = .ok (.if_icmp .gt 7, 3) := by decide +kernel
theorem dX3_isLetter_12 : decode cX3_isLetter 12 = .ok (.iconst 1, 1) := by decide +kernel
theorem dX3_isLetter_13 : decode cX3_isLetter 13 = .ok (.goto 4, 3) := by decide +kernel
theorem dX3_isLetter_16 : decode cX3_isLetter 16 = .ok (.iconst 0, 1) := by decide +kernel
theorem dX3_isLetter_17 : decode cX3_isLetter 17 = .ok (.ireturn, 1) := by decide +kernel
theorem dX3_signMeant_0 : decode cX3_signMeant 0 = .ok (.iload_n 0, 1) := by decide +kernel
theorem dX3_signMeant_1 : decode cX3_signMeant 1 = .ok (.invokestatic 38, 3) := by decide +kernel
theorem dX3_signMeant_4 : decode cX3_signMeant 4 = .ok (.ifCond .eq 10, 3) := by decide +kernel
theorem dX3_signMeant_7 : decode cX3_signMeant 7 = .ok (.iload_n 0, 1) := by decide +kernel
theorem dX3_signMeant_8 : decode cX3_signMeant 8 = .ok (.bipush 97, 2) := by decide +kernel
theorem dX3_signMeant_10 : decode cX3_signMeant 10 = .ok (.isub, 1) := by decide +kernel
theorem dX3_signMeant_11 : decode cX3_signMeant 11 = .ok (.iconst 1, 1) := by decide +kernel
theorem dX3_signMeant_12 : decode cX3_signMeant 12 = .ok (.iadd, 1) := by decide +kernel
theorem dX3_signMeant_13 : decode cX3_signMeant 13 = .ok (.ireturn, 1) := by decide +kernel
theorem dX3_signMeant_14 : decode cX3_signMeant 14 = .ok (.iload_n 0, 1) := by decide +kernel
theorem dX3_signMeant_15 : decode cX3_signMeant 15 = .ok (.tableswitch 41 42 46 #[35, 41, 41, 33, 38], 33) := by decide +kernel
theorem dX3_signMeant_48 : decode cX3_signMeant 48 = .ok (.iconst 0, 1) := by decide +kernel
theorem dX3_signMeant_49 : decode cX3_signMeant 49 = .ok (.ireturn, 1) := by decide +kernel
theorem dX3_signMeant_50 : decode cX3_signMeant 50 = .ok (.bipush 6, 2) := by decide +kernel
theorem dX3_signMeant_52 : decode cX3_signMeant 52 = .ok (.ireturn, 1) := by decide +kernel
theorem dX3_signMeant_53 : decode cX3_signMeant 53 = .ok (.bipush 7, 2) := by decide +kernel
theorem dX3_signMeant_55 : decode cX3_signMeant 55 = .ok (.ireturn, 1) := by decide +kernel
theorem dX3_signMeant_56 : decode cX3_signMeant 56 = .ok (.iconst (-1), 1) := by decide +kernel
theorem dX3_signMeant_57 : decode cX3_signMeant 57 = .ok (.ireturn, 1) := by decide +kernel
theorem dX4_init_0 : decode cX4_init 0 = .ok (.aload_n 0, 1) := by decide +kernel
theorem dX4_init_1 : decode cX4_init 1 = .ok (.invokespecial 3, 3) := by decide +kernel
theorem dX4_init_4 : decode cX4_init 4 = .ok (.aload_n 0, 1) := by decide +kernel
theorem dX4_init_5 : decode cX4_init 5 = .ok (.bipush 16, 2) := by decide +kernel
theorem dX4_init_7 : decode cX4_init 7 = .ok (.newarray .int, 2) := by decide +kernel
theorem dX4_init_9 : decode cX4_init 9 = .ok (.putfield 9, 3) := by decide +kernel
theorem dX4_init_12 : decode cX4_init 12 = .ok (.aload_n 0, 1) := by decide +kernel
theorem dX4_init_13 : decode cX4_init 13 = .ok (.iconst 4, 1) := by decide +kernel
theorem dX4_init_14 : decode cX4_init 14 = .ok (.newarray .int, 2) := by decide +kernel
theorem dX4_init_16 : decode cX4_init 16 = .ok (.putfield 15, 3) := by decide +kernel
theorem dX4_init_19 : decode cX4_init 19 = .ok (.aload_n 0, 1) := by decide +kernel
theorem dX4_init_20 : decode cX4_init 20 = .ok (.bipush 12, 2) := by decide +kernel
theorem dX4_init_22 : decode cX4_init 22 = .ok (.newarray .int, 2) := by decide +kernel
theorem dX4_init_24 : decode cX4_init 24 = .ok (.putfield 18, 3) := by decide +kernel
theorem dX4_init_27 : decode cX4_init 27 = .ok (.aload_n 0, 1) := by decide +kernel
theorem dX4_init_28 : decode cX4_init 28 = .ok (.bipush 12, 2) := by decide +kernel
theorem dX4_init_30 : decode cX4_init 30 = .ok (.newarray .int, 2) := by decide +kernel
theorem dX4_init_32 : decode cX4_init 32 = .ok (.putfield 21, 3) := by decide +kernel
theorem dX4_init_35 : decode cX4_init 35 = .ok (.aload_n 0, 1) := by decide +kernel
theorem dX4_init_36 : decode cX4_init 36 = .ok (.aload_n 1, 1) := by decide +kernel
theorem dX4_init_37 : decode cX4_init 37 = .ok (.putfield 24, 3) := by decide +kernel
theorem dX4_init_40 : decode cX4_init 40 = .ok (.iconst 0, 1) := by decide +kernel
theorem dX4_init_41 : decode cX4_init 41 = .ok (.istore_n 2, 1) := by decide +kernel
theorem dX4_init_42 : decode cX4_init 42 = .ok (.iload_n 2, 1) := by decide +kernel
theorem dX4_init_43 : decode cX4_init 43 = .ok (.bipush 12, 2) := by decide +kernel
theorem dX4_init_45 : decode cX4_init 45 = .ok (.if_icmp .ge 17, 3) := by decide +kernel
theorem dX4_init_48 : decode cX4_init 48 = .ok (.aload_n 0, 1) := by decide +kernel
theorem dX4_init_49 : decode cX4_init 49 = .ok (.getfield 18, 3) := by decide +kernel
theorem dX4_init_52 : decode cX4_init 52 = .ok (.iload_n 2, 1) := by decide +kernel
theorem dX4_init_53 : decode cX4_init 53 = .ok (.bipush (-9), 2) := by decide +kernel
theorem dX4_init_55 : decode cX4_init 55 = .ok (.iastore, 1) := by decide +kernel
theorem dX4_init_56 : decode cX4_init 56 = .ok (.iinc 2 1, 3) := by decide +kernel
theorem dX4_init_59 : decode cX4_init 59 = .ok (.goto (-17), 3) := by decide +kernel
theorem dX4_init_62 : decode cX4_init 62 = .ok (.return_, 1) := by decide +kernel
theorem dX4_beginWith_0 : decode cX4_beginWith 0 = .ok (.aload_n 1, 1) := by decide +kernel
theorem dX4_beginWith_1 : decode cX4_beginWith 1 = .ok (.getfield 28, 3) := by decide +kernel
theorem dX4_beginWith_4 : decode cX4_beginWith 4 = .ok (.iconst 0, 1) := by decide +kernel
theorem dX4_beginWith_5 : decode cX4_beginWith 5 = .ok (.aload_n 0, 1) := by decide +kernel
theorem dX4_beginWith_6 : decode cX4_beginWith 6 = .ok (.getfield 9, 3) := by decide +kernel
theorem dX4_beginWith_9 : decode cX4_beginWith 9 = .ok (.iconst 0, 1) := by decide +kernel
theorem dX4_beginWith_10 : decode cX4_beginWith 10 = .ok (.bipush 16, 2) := by decide +kernel
theorem dX4_beginWith_12 : decode cX4_beginWith 12 = .ok (.invokestatic 31, 3) := by decide +kernel
theorem dX4_beginWith_15 : decode cX4_beginWith 15 = .ok (.aload_n 0, 1) := by decide +kernel
theorem dX4_beginWith_16 : decode cX4_beginWith 16 = .ok (.aload_n 1, 1) := by decide +kernel
theorem dX4_beginWith_17 : decode cX4_beginWith 17 = .ok (.getfield 37, 3) := by decide +kernel
theorem dX4_beginWith_20 : decode cX4_beginWith 20 = .ok (.putfield 41, 3) := by decide +kernel
theorem dX4_beginWith_23 : decode cX4_beginWith 23 = .ok (.aload_n 0, 1) := by decide +kernel
theorem dX4_beginWith_24 : decode cX4_beginWith 24 = .ok (.invokevirtual 42, 3) := by decide +kernel
theorem dX4_beginWith_27 : decode cX4_beginWith 27 = .ok (.iconst 0, 1) := by decide +kernel
theorem dX4_beginWith_28 : decode cX4_beginWith 28 = .ok (.istore_n 2, 1) := by decide +kernel
theorem dX4_beginWith_29 : decode cX4_beginWith 29 = .ok (.iload_n 2, 1) := by decide +kernel
theorem dX4_beginWith_30 : decode cX4_beginWith 30 = .ok (.bipush 12, 2) := by decide +kernel
theorem dX4_beginWith_32 : decode cX4_beginWith 32 = .ok (.if_icmp .ge 17, 3) := by decide +kernel
theorem dX4_beginWith_35 : decode cX4_beginWith 35 = .ok (.aload_n 0, 1) := by decide +kernel
theorem dX4_beginWith_36 : decode cX4_beginWith 36 = .ok (.getfield 18, 3) := by decide +kernel
theorem dX4_beginWith_39 : decode cX4_beginWith 39 = .ok (.iload_n 2, 1) := by decide +kernel
theorem dX4_beginWith_40 : decode cX4_beginWith 40 = .ok (.bipush (-9), 2) := by decide +kernel
theorem dX4_beginWith_42 : decode cX4_beginWith 42 = .ok (.iastore, 1) := by decide +kernel
theorem dX4_beginWith_43 : decode cX4_beginWith 43 = .ok (.iinc 2 1, 3) := by decide +kernel
theorem dX4_beginWith_46 : decode cX4_beginWith 46 = .ok (.goto (-17), 3) := by decide +kernel
theorem dX4_beginWith_49 : decode cX4_beginWith 49 = .ok (.return_, 1) := by decide +kernel
theorem dX4_takeFrom_0 : decode cX4_takeFrom 0 = .ok (.aload_n 1, 1) := by decide +kernel
theorem dX4_takeFrom_1 : decode cX4_takeFrom 1 = .ok (.getfield 9, 3) := by decide +kernel
theorem dX4_takeFrom_4 : decode cX4_takeFrom 4 = .ok (.iconst 0, 1) := by decide +kernel
theorem dX4_takeFrom_5 : decode cX4_takeFrom 5 = .ok (.aload_n 0, 1) := by decide +kernel
theorem dX4_takeFrom_6 : decode cX4_takeFrom 6 = .ok (.getfield 9, 3) := by decide +kernel
theorem dX4_takeFrom_9 : decode cX4_takeFrom 9 = .ok (.iconst 0, 1) := by decide +kernel
theorem dX4_takeFrom_10 : decode cX4_takeFrom 10 = .ok (.bipush 16, 2) := by decide +kernel
theorem dX4_takeFrom_12 : decode cX4_takeFrom 12 = .ok (.invokestatic 31, 3) := by decide +kernel
theorem dX4_takeFrom_15 : decode cX4_takeFrom 15 = .ok (.aload_n 1, 1) := by decide +kernel
theorem dX4_takeFrom_16 : decode cX4_takeFrom 16 = .ok (.getfield 15, 3) := by decide +kernel
theorem dX4_takeFrom_19 : decode cX4_takeFrom 19 = .ok (.iconst 0, 1) := by decide +kernel
theorem dX4_takeFrom_20 : decode cX4_takeFrom 20 = .ok (.aload_n 0, 1) := by decide +kernel
theorem dX4_takeFrom_21 : decode cX4_takeFrom 21 = .ok (.getfield 15, 3) := by decide +kernel
theorem dX4_takeFrom_24 : decode cX4_takeFrom 24 = .ok (.iconst 0, 1) := by decide +kernel
theorem dX4_takeFrom_25 : decode cX4_takeFrom 25 = .ok (.iconst 4, 1) := by decide +kernel
theorem dX4_takeFrom_26 : decode cX4_takeFrom 26 = .ok (.invokestatic 31, 3) := by decide +kernel
theorem dX4_takeFrom_29 : decode cX4_takeFrom 29 = .ok (.aload_n 1, 1) := by decide +kernel
theorem dX4_takeFrom_30 : decode cX4_takeFrom 30 = .ok (.getfield 18, 3) := by decide +kernel
theorem dX4_takeFrom_33 : decode cX4_takeFrom 33 = .ok (.iconst 0, 1) := by decide +kernel
theorem dX4_takeFrom_34 : decode cX4_takeFrom 34 = .ok (.aload_n 0, 1) := by decide +kernel
theorem dX4_takeFrom_35 : decode cX4_takeFrom 35 = .ok (.getfield 18, 3) := by decide +kernel
theorem dX4_takeFrom_38 : decode cX4_takeFrom 38 = .ok (.iconst 0, 1) := by decide +kernel
theorem dX4_takeFrom_39 : decode cX4_takeFrom 39 = .ok (.bipush 12, 2) := by decide +kernel
theorem dX4_takeFrom_41 : decode cX4_takeFrom 41 = .ok (.invokestatic 31, 3) := by decide +kernel
theorem dX4_takeFrom_44 : decode cX4_takeFrom 44 = .ok (.aload_n 0, 1) := by decide +kernel
theorem dX4_takeFrom_45 : decode cX4_takeFrom 45 = .ok (.aload_n 1, 1) := by decide +kernel
theorem dX4_takeFrom_46 : decode cX4_takeFrom 46 = .ok (.getfield 41, 3) := by decide +kernel
theorem dX4_takeFrom_49 : decode cX4_takeFrom 49 = .ok (.putfield 41, 3) := by decide +kernel
theorem dX4_takeFrom_52 : decode cX4_takeFrom 52 = .ok (.return_, 1) := by decide +kernel
theorem dX4_hasChange_0 : decode cX4_hasChange 0 = .ok (.iload_n 1, 1) := by decide +kernel
theorem dX4_hasChange_1 : decode cX4_hasChange 1 = .ok (.ifCond .lt 15, 3) := by decide +kernel
theorem dX4_hasChange_4 : decode cX4_hasChange 4 = .ok (.iload_n 1, 1) := by decide +kernel
theorem dX4_hasChange_5 : decode cX4_hasChange 5 = .ok (.aload_n 0, 1) := by decide +kernel
theorem dX4_hasChange_6 : decode cX4_hasChange 6 = .ok (.getfield 41, 3) := by decide +kernel
theorem dX4_hasChange_9 : decode cX4_hasChange 9 = .ok (.if_icmp .ge 7, 3) := by decide +kernel
theorem dX4_hasChange_12 : decode cX4_hasChange 12 = .ok (.iconst 1, 1) := by decide +kernel
theorem dX4_hasChange_13 : decode cX4_hasChange 13 = .ok (.goto 4, 3) := by decide +kernel
theorem dX4_hasChange_16 : decode cX4_hasChange 16 = .ok (.iconst 0, 1) := by decide +kernel
theorem dX4_hasChange_17 : decode cX4_hasChange 17 = .ok (.ireturn, 1) := by decide +kernel
theorem dX4_allChanges_0 : decode cX4_allChanges 0 = .ok (.iconst 1, 1) := by decide +kernel
theorem dX4_allChanges_1 : decode cX4_allChanges 1 = .ok (.aload_n 0, 1) := by decide +kernel
theorem dX4_allChanges_2 : decode cX4_allChanges 2 = .ok (.getfield 41, 3) := by decide +kernel
theorem dX4_allChanges_5 : decode cX4_allChanges 5 = .ok (.ishl, 1) := by decide +kernel
theorem dX4_allChanges_6 : decode cX4_allChanges 6 = .ok (.iconst 1, 1) := by decide +kernel
theorem dX4_allChanges_7 : decode cX4_allChanges 7 = .ok (.isub, 1) := by decide +kernel
theorem dX4_allChanges_8 : decode cX4_allChanges 8 = .ok (.ireturn, 1) := by decide +kernel
theorem dX4_signOf_0 : decode cX4_signOf 0 = .ok (.aload_n 0, 1) := by decide +kernel
theorem dX4_signOf_1 : decode cX4_signOf 1 = .ok (.getfield 9, 3) := by decide +kernel
theorem dX4_signOf_4 : decode cX4_signOf 4 = .ok (.iload_n 1, 1) := by decide +kernel
theorem dX4_signOf_5 : decode cX4_signOf 5 = .ok (.iconst 4, 1) := by decide +kernel
theorem dX4_signOf_6 : decode cX4_signOf 6 = .ok (.imul, 1) := by decide +kernel
theorem dX4_signOf_7 : decode cX4_signOf 7 = .ok (.iload_n 2, 1) := by decide +kernel
theorem dX4_signOf_8 : decode cX4_signOf 8 = .ok (.iadd, 1) := by decide +kernel
theorem dX4_signOf_9 : decode cX4_signOf 9 = .ok (.iaload, 1) := by decide +kernel
theorem dX4_signOf_10 : decode cX4_signOf 10 = .ok (.ireturn, 1) := by decide +kernel
theorem dX4_putSign_0 : decode cX4_putSign 0 = .ok (.aload_n 0, 1) := by decide +kernel
theorem dX4_putSign_1 : decode cX4_putSign 1 = .ok (.getfield 9, 3) := by decide +kernel
theorem dX4_putSign_4 : decode cX4_putSign 4 = .ok (.iload_n 1, 1) := by decide +kernel
theorem dX4_putSign_5 : decode cX4_putSign 5 = .ok (.iconst 4, 1) := by decide +kernel
theorem dX4_putSign_6 : decode cX4_putSign 6 = .ok (.imul, 1) := by decide +kernel
theorem dX4_putSign_7 : decode cX4_putSign 7 = .ok (.iload_n 2, 1) := by decide +kernel
theorem dX4_putSign_8 : decode cX4_putSign 8 = .ok (.iadd, 1) := by decide +kernel
theorem dX4_putSign_9 : decode cX4_putSign 9 = .ok (.iload_n 3, 1) := by decide +kernel
theorem dX4_putSign_10 : decode cX4_putSign 10 = .ok (.iastore, 1) := by decide +kernel
theorem dX4_putSign_11 : decode cX4_putSign 11 = .ok (.return_, 1) := by decide +kernel
theorem dX4_formOf_0 : decode cX4_formOf 0 = .ok (.aload_n 0, 1) := by decide +kernel
theorem dX4_formOf_1 : decode cX4_formOf 1 = .ok (.getfield 18, 3) := by decide +kernel
theorem dX4_formOf_4 : decode cX4_formOf 4 = .ok (.iload_n 1, 1) := by decide +kernel
theorem dX4_formOf_5 : decode cX4_formOf 5 = .ok (.iconst 3, 1) := by decide +kernel
theorem dX4_formOf_6 : decode cX4_formOf 6 = .ok (.imul, 1) := by decide +kernel
theorem dX4_formOf_7 : decode cX4_formOf 7 = .ok (.iload_n 2, 1) := by decide +kernel
theorem dX4_formOf_8 : decode cX4_formOf 8 = .ok (.iadd, 1) := by decide +kernel
theorem dX4_formOf_9 : decode cX4_formOf 9 = .ok (.iaload, 1) := by decide +kernel
theorem dX4_formOf_10 : decode cX4_formOf 10 = .ok (.ireturn, 1) := by decide +kernel
theorem dX4_putForm_0 : decode cX4_putForm 0 = .ok (.aload_n 0, 1) := by decide +kernel
theorem dX4_putForm_1 : decode cX4_putForm 1 = .ok (.getfield 18, 3) := by decide +kernel
theorem dX4_putForm_4 : decode cX4_putForm 4 = .ok (.iload_n 1, 1) := by decide +kernel
theorem dX4_putForm_5 : decode cX4_putForm 5 = .ok (.iconst 3, 1) := by decide +kernel
theorem dX4_putForm_6 : decode cX4_putForm 6 = .ok (.imul, 1) := by decide +kernel
theorem dX4_putForm_7 : decode cX4_putForm 7 = .ok (.iload_n 2, 1) := by decide +kernel
theorem dX4_putForm_8 : decode cX4_putForm 8 = .ok (.iadd, 1) := by decide +kernel
theorem dX4_putForm_9 : decode cX4_putForm 9 = .ok (.iload_n 3, 1) := by decide +kernel
theorem dX4_putForm_10 : decode cX4_putForm 10 = .ok (.iastore, 1) := by decide +kernel
theorem dX4_putForm_11 : decode cX4_putForm 11 = .ok (.return_, 1) := by decide +kernel
theorem dX4_formCount_0 : decode cX4_formCount 0 = .ok (.iconst 0, 1) := by decide +kernel
theorem dX4_formCount_1 : decode cX4_formCount 1 = .ok (.istore_n 1, 1) := by decide +kernel
theorem dX4_formCount_2 : decode cX4_formCount 2 = .ok (.iconst 0, 1) := by decide +kernel
theorem dX4_formCount_3 : decode cX4_formCount 3 = .ok (.istore_n 2, 1) := by decide +kernel
theorem dX4_formCount_4 : decode cX4_formCount 4 = .ok (.iload_n 2, 1) := by decide +kernel
theorem dX4_formCount_5 : decode cX4_formCount 5 = .ok (.bipush 12, 2) := by decide +kernel
theorem dX4_formCount_7 : decode cX4_formCount 7 = .ok (.if_icmp .ge 23, 3) := by decide +kernel
theorem dX4_formCount_10 : decode cX4_formCount 10 = .ok (.aload_n 0, 1) := by decide +kernel
theorem dX4_formCount_11 : decode cX4_formCount 11 = .ok (.getfield 18, 3) := by decide +kernel
theorem dX4_formCount_14 : decode cX4_formCount 14 = .ok (.iload_n 2, 1) := by decide +kernel
theorem dX4_formCount_15 : decode cX4_formCount 15 = .ok (.iaload, 1) := by decide +kernel
theorem dX4_formCount_16 : decode cX4_formCount 16 = .ok (.bipush (-9), 2) := by decide +kernel
theorem dX4_formCount_18 : decode cX4_formCount 18 = .ok (.if_icmp .eq 6, 3) := by decide +kernel
theorem dX4_formCount_21 : decode cX4_formCount 21 = .ok (.iinc 1 1, 3) := by decide +kernel
theorem dX4_formCount_24 : decode cX4_formCount 24 = .ok (.iinc 2 1, 3) := by decide +kernel
theorem dX4_formCount_27 : decode cX4_formCount 27 = .ok (.goto (-23), 3) := by decide +kernel
theorem dX4_formCount_30 : decode cX4_formCount 30 = .ok (.iload_n 1, 1) := by decide +kernel
theorem dX4_formCount_31 : decode cX4_formCount 31 = .ok (.ireturn, 1) := by decide +kernel
theorem dX4_orderByNumber_0 : decode cX4_orderByNumber 0 = .ok (.iconst 0, 1) := by decide +kernel
theorem dX4_orderByNumber_1 : decode cX4_orderByNumber 1 = .ok (.istore_n 1, 1) := by decide +kernel
theorem dX4_orderByNumber_2 : decode cX4_orderByNumber 2 = .ok (.iload_n 1, 1) := by decide +kernel
theorem dX4_orderByNumber_3 : decode cX4_orderByNumber 3 = .ok (.iconst 4, 1) := by decide +kernel
theorem dX4_orderByNumber_4 : decode cX4_orderByNumber 4 = .ok (.if_icmp .ge 16, 3) := by decide +kernel
theorem dX4_orderByNumber_7 : decode cX4_orderByNumber 7 = .ok (.aload_n 0, 1) := by decide +kernel
theorem dX4_orderByNumber_8 : decode cX4_orderByNumber 8 = .ok (.getfield 15, 3) := by decide +kernel
theorem dX4_orderByNumber_11 : decode cX4_orderByNumber 11 = .ok (.iload_n 1, 1) := by decide +kernel
theorem dX4_orderByNumber_12 : decode cX4_orderByNumber 12 = .ok (.iload_n 1, 1) := by decide +kernel
theorem dX4_orderByNumber_13 : decode cX4_orderByNumber 13 = .ok (.iastore, 1) := by decide +kernel
theorem dX4_orderByNumber_14 : decode cX4_orderByNumber 14 = .ok (.iinc 1 1, 3) := by decide +kernel
theorem dX4_orderByNumber_17 : decode cX4_orderByNumber 17 = .ok (.goto (-15), 3) := by decide +kernel
theorem dX4_orderByNumber_20 : decode cX4_orderByNumber 20 = .ok (.return_, 1) := by decide +kernel
theorem dX4_exchange_0 : decode cX4_exchange 0 = .ok (.aload_n 0, 1) := by decide +kernel
theorem dX4_exchange_1 : decode cX4_exchange 1 = .ok (.getfield 15, 3) := by decide +kernel
theorem dX4_exchange_4 : decode cX4_exchange 4 = .ok (.iload_n 1, 1) := by decide +kernel
theorem dX4_exchange_5 : decode cX4_exchange 5 = .ok (.iaload, 1) := by decide +kernel
theorem dX4_exchange_6 : decode cX4_exchange 6 = .ok (.istore_n 3, 1) := by decide +kernel
theorem dX4_exchange_7 : decode cX4_exchange 7 = .ok (.aload_n 0, 1) := by decide +kernel
theorem dX4_exchange_8 : decode cX4_exchange 8 = .ok (.getfield 15, 3) := by decide +kernel
theorem dX4_exchange_11 : decode cX4_exchange 11 = .ok (.iload_n 1, 1) := by decide +kernel
theorem dX4_exchange_12 : decode cX4_exchange 12 = .ok (.aload_n 0, 1) := by decide +kernel
theorem dX4_exchange_13 : decode cX4_exchange 13 = .ok (.getfield 15, 3) := by decide +kernel
theorem dX4_exchange_16 : decode cX4_exchange 16 = .ok (.iload_n 2, 1) := by decide +kernel
theorem dX4_exchange_17 : decode cX4_exchange 17 = .ok (.iaload, 1) := by decide +kernel
theorem dX4_exchange_18 : decode cX4_exchange 18 = .ok (.iastore, 1) := by decide +kernel
theorem dX4_exchange_19 : decode cX4_exchange 19 = .ok (.aload_n 0, 1) := by decide +kernel
theorem dX4_exchange_20 : decode cX4_exchange 20 = .ok (.getfield 15, 3) := by decide +kernel
theorem dX4_exchange_23 : decode cX4_exchange 23 = .ok (.iload_n 2, 1) := by decide +kernel
theorem dX4_exchange_24 : decode cX4_exchange 24 = .ok (.iload_n 3, 1) := by decide +kernel
theorem dX4_exchange_25 : decode cX4_exchange 25 = .ok (.iastore, 1) := by decide +kernel
theorem dX4_exchange_26 : decode cX4_exchange 26 = .ok (.return_, 1) := by decide +kernel
theorem dX4_goToNextOrder_0 : decode cX4_goToNextOrder 0 = .ok (.aload_n 0, 1) := by decide +kernel
theorem dX4_goToNextOrder_1 : decode cX4_goToNextOrder 1 = .ok (.getfield 41, 3) := by decide +kernel
theorem dX4_goToNextOrder_4 : decode cX4_goToNextOrder 4 = .ok (.iconst 2, 1) := by decide +kernel
theorem dX4_goToNextOrder_5 : decode cX4_goToNextOrder 5 = .ok (.isub, 1) := by decide +kernel
theorem dX4_goToNextOrder_6 : decode cX4_goToNextOrder 6 = .ok (.istore_n 1, 1) := by decide +kernel
theorem dX4_goToNextOrder_7 : decode cX4_goToNextOrder 7 = .ok (.iload_n 1, 1) := by decide +kernel
theorem dX4_goToNextOrder_8 : decode cX4_goToNextOrder 8 = .ok (.ifCond .lt 26, 3) := by decide +kernel
theorem dX4_goToNextOrder_11 : decode cX4_goToNextOrder 11 = .ok (.aload_n 0, 1) := by decide +kernel
theorem dX4_goToNextOrder_12 : decode cX4_goToNextOrder 12 = .ok (.getfield 15, 3) := by decide +kernel
theorem dX4_goToNextOrder_15 : decode cX4_goToNextOrder 15 = .ok (.iload_n 1, 1) := by decide +kernel
theorem dX4_goToNextOrder_16 : decode cX4_goToNextOrder 16 = .ok (.iaload, 1) := by decide +kernel
theorem dX4_goToNextOrder_17 : decode cX4_goToNextOrder 17 = .ok (.aload_n 0, 1) := by decide +kernel
theorem dX4_goToNextOrder_18 : decode cX4_goToNextOrder 18 = .ok (.getfield 15, 3) := by decide +kernel
theorem dX4_goToNextOrder_21 : decode cX4_goToNextOrder 21 = .ok (.iload_n 1, 1) := by decide +kernel
theorem dX4_goToNextOrder_22 : decode cX4_goToNextOrder 22 = .ok (.iconst 1, 1) := by decide +kernel
theorem dX4_goToNextOrder_23 : decode cX4_goToNextOrder 23 = .ok (.iadd, 1) := by decide +kernel
theorem dX4_goToNextOrder_24 : decode cX4_goToNextOrder 24 = .ok (.iaload, 1) := by decide +kernel
theorem dX4_goToNextOrder_25 : decode cX4_goToNextOrder 25 = .ok (.if_icmp .le 9, 3) := by decide +kernel
theorem dX4_goToNextOrder_28 : decode cX4_goToNextOrder 28 = .ok (.iinc 1 (-1), 3) := by decide +kernel
theorem dX4_goToNextOrder_31 : decode cX4_goToNextOrder 31 = .ok (.goto (-24), 3) := by decide +kernel
theorem dX4_goToNextOrder_34 : decode cX4_goToNextOrder 34 = .ok (.iload_n 1, 1) := by decide +kernel
theorem dX4_goToNextOrder_35 : decode cX4_goToNextOrder 35 = .ok (.ifCond .ge 5, 3) := by decide +kernel
theorem dX4_goToNextOrder_38 : decode cX4_goToNextOrder 38 = .ok (.iconst 0, 1) := by decide +kernel
theorem dX4_goToNextOrder_39 : decode cX4_goToNextOrder 39 = .ok (.ireturn, 1) := by decide +kernel
theorem dX4_goToNextOrder_40 : decode cX4_goToNextOrder 40 = .ok (.aload_n 0, 1) := by decide +kernel
theorem dX4_goToNextOrder_41 : decode cX4_goToNextOrder 41 = .ok (.getfield 41, 3) := by decide +kernel
theorem dX4_goToNextOrder_44 : decode cX4_goToNextOrder 44 = .ok (.iconst 1, 1) := by decide +kernel
theorem dX4_goToNextOrder_45 : decode cX4_goToNextOrder 45 = .ok (.isub, 1) := by decide +kernel
theorem dX4_goToNextOrder_46 : decode cX4_goToNextOrder 46 = .ok (.istore_n 2, 1) := by decide +kernel
theorem dX4_goToNextOrder_47 : decode cX4_goToNextOrder 47 = .ok (.iload_n 2, 1) := by decide +kernel
theorem dX4_goToNextOrder_48 : decode cX4_goToNextOrder 48 = .ok (.iload_n 1, 1) := by decide +kernel
theorem dX4_goToNextOrder_49 : decode cX4_goToNextOrder 49 = .ok (.if_icmp .le 24, 3) := by decide +kernel
theorem dX4_goToNextOrder_52 : decode cX4_goToNextOrder 52 = .ok (.aload_n 0, 1) := by decide +kernel
theorem dX4_goToNextOrder_53 : decode cX4_goToNextOrder 53 = .ok (.getfield 15, 3) := by decide +kernel
theorem dX4_goToNextOrder_56 : decode cX4_goToNextOrder 56 = .ok (.iload_n 2, 1) := by decide +kernel
theorem dX4_goToNextOrder_57 : decode cX4_goToNextOrder 57 = .ok (.iaload, 1) := by decide +kernel
theorem dX4_goToNextOrder_58 : decode cX4_goToNextOrder 58 = .ok (.aload_n 0, 1) := by decide +kernel
theorem dX4_goToNextOrder_59 : decode cX4_goToNextOrder 59 = .ok (.getfield 15, 3) := by decide +kernel
theorem dX4_goToNextOrder_62 : decode cX4_goToNextOrder 62 = .ok (.iload_n 1, 1) := by decide +kernel
theorem dX4_goToNextOrder_63 : decode cX4_goToNextOrder 63 = .ok (.iaload, 1) := by decide +kernel
theorem dX4_goToNextOrder_64 : decode cX4_goToNextOrder 64 = .ok (.if_icmp .ge 9, 3) := by decide +kernel
theorem dX4_goToNextOrder_67 : decode cX4_goToNextOrder 67 = .ok (.iinc 2 (-1), 3) := by decide +kernel
theorem dX4_goToNextOrder_70 : decode cX4_goToNextOrder 70 = .ok (.goto (-23), 3) := by decide +kernel
theorem dX4_goToNextOrder_73 : decode cX4_goToNextOrder 73 = .ok (.aload_n 0, 1) := by decide +kernel
theorem dX4_goToNextOrder_74 : decode cX4_goToNextOrder 74 = .ok (.iload_n 1, 1) := by decide +kernel
theorem dX4_goToNextOrder_75 : decode cX4_goToNextOrder 75 = .ok (.iload_n 2, 1) := by decide +kernel
theorem dX4_goToNextOrder_76 : decode cX4_goToNextOrder 76 = .ok (.invokevirtual 45, 3) := by decide +kernel
theorem dX4_goToNextOrder_79 : decode cX4_goToNextOrder 79 = .ok (.iload_n 1, 1) := by decide +kernel
theorem dX4_goToNextOrder_80 : decode cX4_goToNextOrder 80 = .ok (.iconst 1, 1) := by decide +kernel
theorem dX4_goToNextOrder_81 : decode cX4_goToNextOrder 81 = .ok (.iadd, 1) := by decide +kernel
theorem dX4_goToNextOrder_82 : decode cX4_goToNextOrder 82 = .ok (.istore_n 3, 1) := by decide +kernel
theorem dX4_goToNextOrder_83 : decode cX4_goToNextOrder 83 = .ok (.aload_n 0, 1) := by decide +kernel
theorem dX4_goToNextOrder_84 : decode cX4_goToNextOrder 84 = .ok (.getfield 41, 3) := by decide +kernel
theorem dX4_goToNextOrder_87 : decode cX4_goToNextOrder 87 = .ok (.iconst 1, 1) := by decide +kernel
theorem dX4_goToNextOrder_88 : decode cX4_goToNextOrder 88 = .ok (.isub, 1) := by decide +kernel
theorem dX4_goToNextOrder_89 : decode cX4_goToNextOrder 89 = .ok (.istore 4, 2) := by decide +kernel
theorem dX4_goToNextOrder_91 : decode cX4_goToNextOrder 91 = .ok (.iload_n 3, 1) := by decide +kernel
theorem dX4_goToNextOrder_92 : decode cX4_goToNextOrder 92 = .ok (.iload 4, 2) := by decide +kernel
theorem dX4_goToNextOrder_94 : decode cX4_goToNextOrder 94 = .ok (.if_icmp .ge 19, 3) := by decide +kernel
theorem dX4_goToNextOrder_97 : decode cX4_goToNextOrder 97 = .ok (.aload_n 0, 1) := by decide +kernel
theorem dX4_goToNextOrder_98 : decode cX4_goToNextOrder 98 = .ok (.iload_n 3, 1) := by decide +kernel
theorem dX4_goToNextOrder_99 : decode cX4_goToNextOrder 99 = .ok (.iload 4, 2) := by decide +kernel
theorem dX4_goToNextOrder_101 : decode cX4_goToNextOrder 101 = .ok (.invokevirtual 45, 3) := by decide +kernel
theorem dX4_goToNextOrder_104 : decode cX4_goToNextOrder 104 = .ok (.iinc 3 1, 3) := by decide +kernel
theorem dX4_goToNextOrder_107 : decode cX4_goToNextOrder 107 = .ok (.iinc 4 (-1), 3) := by decide +kernel
theorem dX4_goToNextOrder_110 : decode cX4_goToNextOrder 110 = .ok (.goto (-19), 3) := by decide +kernel
theorem dX4_goToNextOrder_113 : decode cX4_goToNextOrder 113 = .ok (.iconst 1, 1) := by decide +kernel
theorem dX4_goToNextOrder_114 : decode cX4_goToNextOrder 114 = .ok (.ireturn, 1) := by decide +kernel
theorem dX4_orderFigures_0 : decode cX4_orderFigures 0 = .ok (.iconst 0, 1) := by decide +kernel
theorem dX4_orderFigures_1 : decode cX4_orderFigures 1 = .ok (.istore_n 1, 1) := by decide +kernel
theorem dX4_orderFigures_2 : decode cX4_orderFigures 2 = .ok (.iconst 0, 1) := by decide +kernel
theorem dX4_orderFigures_3 : decode cX4_orderFigures 3 = .ok (.istore_n 2, 1) := by decide +kernel
theorem dX4_orderFigures_4 : decode cX4_orderFigures 4 = .ok (.iload_n 2, 1) := by decide +kernel
theorem dX4_orderFigures_5 : decode cX4_orderFigures 5 = .ok (.aload_n 0, 1) := by decide +kernel
theorem dX4_orderFigures_6 : decode cX4_orderFigures 6 = .ok (.getfield 41, 3) := by decide +kernel
theorem dX4_orderFigures_9 : decode cX4_orderFigures 9 = .ok (.if_icmp .ge 21, 3) := by decide +kernel
theorem dX4_orderFigures_12 : decode cX4_orderFigures 12 = .ok (.bipush 10, 2) := by decide +kernel
theorem dX4_orderFigures_14 : decode cX4_orderFigures 14 = .ok (.iload_n 1, 1) := by decide +kernel
theorem dX4_orderFigures_15 : decode cX4_orderFigures 15 = .ok (.imul, 1) := by decide +kernel
theorem dX4_orderFigures_16 : decode cX4_orderFigures 16 = .ok (.aload_n 0, 1) := by decide +kernel
theorem dX4_orderFigures_17 : decode cX4_orderFigures 17 = .ok (.getfield 15, 3) := by decide +kernel
theorem dX4_orderFigures_20 : decode cX4_orderFigures 20 = .ok (.iload_n 2, 1) := by decide +kernel
theorem dX4_orderFigures_21 : decode cX4_orderFigures 21 = .ok (.iaload, 1) := by decide +kernel
theorem dX4_orderFigures_22 : decode cX4_orderFigures 22 = .ok (.iadd, 1) := by decide +kernel
theorem dX4_orderFigures_23 : decode cX4_orderFigures 23 = .ok (.istore_n 1, 1) := by decide +kernel
theorem dX4_orderFigures_24 : decode cX4_orderFigures 24 = .ok (.iinc 2 1, 3) := by decide +kernel
theorem dX4_orderFigures_27 : decode cX4_orderFigures 27 = .ok (.goto (-23), 3) := by decide +kernel
theorem dX4_orderFigures_30 : decode cX4_orderFigures 30 = .ok (.iload_n 1, 1) := by decide +kernel
theorem dX4_orderFigures_31 : decode cX4_orderFigures 31 = .ok (.ireturn, 1) := by decide +kernel
theorem dX4_goOver_0 : decode cX4_goOver 0 = .ok (.aload_n 0, 1) := by decide +kernel
theorem dX4_goOver_1 : decode cX4_goOver 1 = .ok (.iload_n 1, 1) := by decide +kernel
theorem dX4_goOver_2 : decode cX4_goOver 2 = .ok (.iconst 0, 1) := by decide +kernel
theorem dX4_goOver_3 : decode cX4_goOver 3 = .ok (.invokevirtual 49, 3) := by decide +kernel
theorem dX4_goOver_6 : decode cX4_goOver 6 = .ok (.istore_n 3, 1) := by decide +kernel
theorem dX4_goOver_7 : decode cX4_goOver 7 = .ok (.iconst 0, 1) := by decide +kernel
theorem dX4_goOver_8 : decode cX4_goOver 8 = .ok (.istore 4, 2) := by decide +kernel
theorem dX4_goOver_10 : decode cX4_goOver 10 = .ok (.iconst 1, 1) := by decide +kernel
theorem dX4_goOver_11 : decode cX4_goOver 11 = .ok (.istore 5, 2) := by decide +kernel
theorem dX4_goOver_13 : decode cX4_goOver 13 = .ok (.iconst 0, 1) := by decide +kernel
theorem dX4_goOver_14 : decode cX4_goOver 14 = .ok (.istore 6, 2) := by decide +kernel
theorem dX4_goOver_16 : decode cX4_goOver 16 = .ok (.iload_n 2, 1) := by decide +kernel
theorem dX4_goOver_17 : decode cX4_goOver 17 = .ok (.istore 7, 2) := by decide +kernel
theorem dX4_goOver_19 : decode cX4_goOver 19 = .ok (.iconst 0, 1) := by decide +kernel
theorem dX4_goOver_20 : decode cX4_goOver 20 = .ok (.istore 8, 2) := by decide +kernel
theorem dX4_goOver_22 : decode cX4_goOver 22 = .ok (.iload 8, 2) := by decide +kernel
theorem dX4_goOver_24 : decode cX4_goOver 24 = .ok (.bipush 6, 2) := by decide +kernel
theorem dX4_goOver_26 : decode cX4_goOver 26 = .ok (.if_icmp .ge 116, 3) := by decide +kernel
theorem dX4_goOver_29 : decode cX4_goOver 29 = .ok (.iload 7, 2) := by decide +kernel
theorem dX4_goOver_31 : decode cX4_goOver 31 = .ok (.ifCond .le 111, 3) := by decide +kernel
theorem dX4_goOver_34 : decode cX4_goOver 34 = .ok (.iload 7, 2) := by decide +kernel
theorem dX4_goOver_36 : decode cX4_goOver 36 = .ok (.bipush 10, 2) := by decide +kernel
theorem dX4_goOver_38 : decode cX4_goOver 38 = .ok (.irem, 1) := by decide +kernel
theorem dX4_goOver_39 : decode cX4_goOver 39 = .ok (.istore 9, 2) := by decide +kernel
theorem dX4_goOver_41 : decode cX4_goOver 41 = .ok (.iload 7, 2) := by decide +kernel
theorem dX4_goOver_43 : decode cX4_goOver 43 = .ok (.bipush 10, 2) := by decide +kernel
theorem dX4_goOver_45 : decode cX4_goOver 45 = .ok (.idiv, 1) := by decide +kernel
theorem dX4_goOver_46 : decode cX4_goOver 46 = .ok (.istore 7, 2) := by decide +kernel
theorem dX4_goOver_48 : decode cX4_goOver 48 = .ok (.iload 9, 2) := by decide +kernel
theorem dX4_goOver_50 : decode cX4_goOver 50 = .ok (.iload_n 3, 1) := by decide +kernel
theorem dX4_goOver_51 : decode cX4_goOver 51 = .ok (.if_icmp .ne 38, 3) := by decide +kernel
theorem dX4_goOver_54 : decode cX4_goOver 54 = .ok (.aload_n 0, 1) := by decide +kernel
theorem dX4_goOver_55 : decode cX4_goOver 55 = .ok (.iload_n 1, 1) := by decide +kernel
theorem dX4_goOver_56 : decode cX4_goOver 56 = .ok (.iconst 2, 1) := by decide +kernel
theorem dX4_goOver_57 : decode cX4_goOver 57 = .ok (.invokevirtual 49, 3) := by decide +kernel
theorem dX4_goOver_60 : decode cX4_goOver 60 = .ok (.iload 7, 2) := by decide +kernel
theorem dX4_goOver_62 : decode cX4_goOver 62 = .ok (.bipush 10, 2) := by decide +kernel
theorem dX4_goOver_64 : decode cX4_goOver 64 = .ok (.irem, 1) := by decide +kernel
theorem dX4_goOver_65 : decode cX4_goOver 65 = .ok (.invokestatic 53, 3) := by decide +kernel
theorem dX4_goOver_68 : decode cX4_goOver 68 = .ok (.ifCond .eq 21, 3) := by decide +kernel
theorem dX4_goOver_71 : decode cX4_goOver 71 = .ok (.aload_n 0, 1) := by decide +kernel
theorem dX4_goOver_72 : decode cX4_goOver 72 = .ok (.iload_n 1, 1) := by decide +kernel
theorem dX4_goOver_73 : decode cX4_goOver 73 = .ok (.iconst 3, 1) := by decide +kernel
theorem dX4_goOver_74 : decode cX4_goOver 74 = .ok (.invokevirtual 49, 3) := by decide +kernel
theorem dX4_goOver_77 : decode cX4_goOver 77 = .ok (.iload 6, 2) := by decide +kernel
theorem dX4_goOver_79 : decode cX4_goOver 79 = .ok (.invokestatic 53, 3) := by decide +kernel
theorem dX4_goOver_82 : decode cX4_goOver 82 = .ok (.ifCond .eq 7, 3) := by decide +kernel
theorem dX4_goOver_85 : decode cX4_goOver 85 = .ok (.iconst 1, 1) := by decide +kernel
theorem dX4_goOver_86 : decode cX4_goOver 86 = .ok (.goto 4, 3) := by decide +kernel
theorem dX4_goOver_89 : decode cX4_goOver 89 = .ok (.iconst 0, 1) := by decide +kernel
theorem dX4_goOver_90 : decode cX4_goOver 90 = .ok (.istore 10, 2) := by decide +kernel
theorem dX4_goOver_92 : decode cX4_goOver 92 = .ok (.iload 10, 2) := by decide +kernel
theorem dX4_goOver_94 : decode cX4_goOver 94 = .ok (.ifCond .eq 12, 3) := by decide +kernel
theorem dX4_goOver_97 : decode cX4_goOver 97 = .ok (.aload_n 0, 1) := by decide +kernel
theorem dX4_goOver_98 : decode cX4_goOver 98 = .ok (.iload_n 1, 1) := by decide +kernel
theorem dX4_goOver_99 : decode cX4_goOver 99 = .ok (.iconst 1, 1) := by decide +kernel
theorem dX4_goOver_100 : decode cX4_goOver 100 = .ok (.invokevirtual 49, 3) := by decide +kernel
theorem dX4_goOver_103 : decode cX4_goOver 103 = .ok (.goto 5, 3) := by decide +kernel
theorem dX4_goOver_106 : decode cX4_goOver 106 = .ok (.iload 9, 2) := by decide +kernel
theorem dX4_goOver_108 : decode cX4_goOver 108 = .ok (.istore 11, 2) := by decide +kernel
theorem dX4_goOver_110 : decode cX4_goOver 110 = .ok (.iload 11, 2) := by decide +kernel
theorem dX4_goOver_112 : decode cX4_goOver 112 = .ok (.ifCond .eq 20, 3) := by decide +kernel
theorem dX4_goOver_115 : decode cX4_goOver 115 = .ok (.iload 4, 2) := by decide +kernel
theorem dX4_goOver_117 : decode cX4_goOver 117 = .ok (.iload 11, 2) := by decide +kernel
theorem dX4_goOver_119 : decode cX4_goOver 119 = .ok (.iload 5, 2) := by decide +kernel
theorem dX4_goOver_121 : decode cX4_goOver 121 = .ok (.imul, 1) := by decide +kernel
theorem dX4_goOver_122 : decode cX4_goOver 122 = .ok (.iadd, 1) := by decide +kernel
theorem dX4_goOver_123 : decode cX4_goOver 123 = .ok (.istore 4, 2) := by decide +kernel
theorem dX4_goOver_125 : decode cX4_goOver 125 = .ok (.iload 5, 2) := by decide +kernel
theorem dX4_goOver_127 : decode cX4_goOver 127 = .ok (.bipush 10, 2) := by decide +kernel
theorem dX4_goOver_129 : decode cX4_goOver 129 = .ok (.imul, 1) := by decide +kernel
theorem dX4_goOver_130 : decode cX4_goOver 130 = .ok (.istore 5, 2) := by decide +kernel
theorem dX4_goOver_132 : decode cX4_goOver 132 = .ok (.iload 9, 2) := by decide +kernel
theorem dX4_goOver_134 : decode cX4_goOver 134 = .ok (.istore 6, 2) := by decide +kernel
theorem dX4_goOver_136 : decode cX4_goOver 136 = .ok (.iinc 8 1, 3) := by decide +kernel
theorem dX4_goOver_139 : decode cX4_goOver 139 = .ok (.goto (-117), 3) := by decide +kernel
theorem dX4_goOver_142 : decode cX4_goOver 142 = .ok (.iload 4, 2) := by decide +kernel
theorem dX4_goOver_144 : decode cX4_goOver 144 = .ok (.ireturn, 1) := by decide +kernel
theorem dX4_walk_0 : decode cX4_walk 0 = .ok (.iload_n 1, 1) := by decide +kernel
theorem dX4_walk_1 : decode cX4_walk 1 = .ok (.istore_n 3, 1) := by decide +kernel
theorem dX4_walk_2 : decode cX4_walk 2 = .ok (.iconst 0, 1) := by decide +kernel
theorem dX4_walk_3 : decode cX4_walk 3 = .ok (.istore 4, 2) := by decide +kernel
theorem dX4_walk_5 : decode cX4_walk 5 = .ok (.iload 4, 2) := by decide +kernel
theorem dX4_walk_7 : decode cX4_walk 7 = .ok (.iload_n 2, 1) := by decide +kernel
theorem dX4_walk_8 : decode cX4_walk 8 = .ok (.if_icmp .ge 22, 3) := by decide +kernel
theorem dX4_walk_11 : decode cX4_walk 11 = .ok (.aload_n 0, 1) := by decide +kernel
theorem dX4_walk_12 : decode cX4_walk 12 = .ok (.aload_n 0, 1) := by decide +kernel
theorem dX4_walk_13 : decode cX4_walk 13 = .ok (.getfield 15, 3) := by decide +kernel
theorem dX4_walk_16 : decode cX4_walk 16 = .ok (.iload 4, 2) := by decide +kernel
theorem dX4_walk_18 : decode cX4_walk 18 = .ok (.iaload, 1) := by decide +kernel
theorem dX4_walk_19 : decode cX4_walk 19 = .ok (.iload_n 3, 1) := by decide +kernel
theorem dX4_walk_20 : decode cX4_walk 20 = .ok (.invokevirtual 59, 3) := by decide +kernel
theorem dX4_walk_23 : decode cX4_walk 23 = .ok (.istore_n 3, 1) := by decide +kernel
theorem dX4_walk_24 : decode cX4_walk 24 = .ok (.iinc 4 1, 3) := by decide +kernel
theorem dX4_walk_27 : decode cX4_walk 27 = .ok (.goto (-22), 3) := by decide +kernel
theorem dX4_walk_30 : decode cX4_walk 30 = .ok (.iload_n 3, 1) := by decide +kernel
theorem dX4_walk_31 : decode cX4_walk 31 = .ok (.ireturn, 1) := by decide +kernel
theorem dX4_walkWith_0 : decode cX4_walkWith 0 = .ok (.iload_n 1, 1) := by decide +kernel
theorem dX4_walkWith_1 : decode cX4_walkWith 1 = .ok (.istore_n 3, 1) := by decide +kernel
theorem dX4_walkWith_2 : decode cX4_walkWith 2 = .ok (.iconst 0, 1) := by decide +kernel
theorem dX4_walkWith_3 : decode cX4_walkWith 3 = .ok (.istore 4, 2) := by decide +kernel
theorem dX4_walkWith_5 : decode cX4_walkWith 5 = .ok (.iload 4, 2) := by decide +kernel
theorem dX4_walkWith_7 : decode cX4_walkWith 7 = .ok (.aload_n 0, 1) := by decide +kernel
theorem dX4_walkWith_8 : decode cX4_walkWith 8 = .ok (.getfield 41, 3) := by decide +kernel
theorem dX4_walkWith_11 : decode cX4_walkWith 11 = .ok (.if_icmp .ge 36, 3) := by decide +kernel
theorem dX4_walkWith_14 : decode cX4_walkWith 14 = .ok (.iload_n 2, 1) := by decide +kernel
theorem dX4_walkWith_15 : decode cX4_walkWith 15 = .ok (.iconst 1, 1) := by decide +kernel
theorem dX4_walkWith_16 : decode cX4_walkWith 16 = .ok (.aload_n 0, 1) := by decide +kernel
theorem dX4_walkWith_17 : decode cX4_walkWith 17 = .ok (.getfield 15, 3) := by decide +kernel
theorem dX4_walkWith_20 : decode cX4_walkWith 20 = .ok (.iload 4, 2) := by decide +kernel
theorem dX4_walkWith_22 : decode cX4_walkWith 22 = .ok (.iaload, 1) := by decide +kernel
theorem dX4_walkWith_23 : decode cX4_walkWith 23 = .ok (.ishl, 1) := by decide +kernel
theorem dX4_walkWith_24 : decode cX4_walkWith 24 = .ok (.iand, 1) := by decide +kernel
theorem dX4_walkWith_25 : decode cX4_walkWith 25 = .ok (.ifCond .eq 16, 3) := by decide +kernel
theorem dX4_walkWith_28 : decode cX4_walkWith 28 = .ok (.aload_n 0, 1) := by decide +kernel
theorem dX4_walkWith_29 : decode cX4_walkWith 29 = .ok (.aload_n 0, 1) := by decide +kernel
theorem dX4_walkWith_30 : decode cX4_walkWith 30 = .ok (.getfield 15, 3) := by decide +kernel
theorem dX4_walkWith_33 : decode cX4_walkWith 33 = .ok (.iload 4, 2) := by decide +kernel
theorem dX4_walkWith_35 : decode cX4_walkWith 35 = .ok (.iaload, 1) := by decide +kernel
theorem dX4_walkWith_36 : decode cX4_walkWith 36 = .ok (.iload_n 3, 1) := by decide +kernel
theorem dX4_walkWith_37 : decode cX4_walkWith 37 = .ok (.invokevirtual 59, 3) := by decide +kernel
theorem dX4_walkWith_40 : decode cX4_walkWith 40 = .ok (.istore_n 3, 1) := by decide +kernel
theorem dX4_walkWith_41 : decode cX4_walkWith 41 = .ok (.iinc 4 1, 3) := by decide +kernel
theorem dX4_walkWith_44 : decode cX4_walkWith 44 = .ok (.goto (-39), 3) := by decide +kernel
theorem dX4_walkWith_47 : decode cX4_walkWith 47 = .ok (.iload_n 3, 1) := by decide +kernel
theorem dX4_walkWith_48 : decode cX4_walkWith 48 = .ok (.ireturn, 1) := by decide +kernel
theorem dX4_makeOf_0 : decode cX4_makeOf 0 = .ok (.aload_n 0, 1) := by decide +kernel
theorem dX4_makeOf_1 : decode cX4_makeOf 1 = .ok (.aload_n 0, 1) := by decide +kernel
theorem dX4_makeOf_2 : decode cX4_makeOf 2 = .ok (.getfield 24, 3) := by decide +kernel
theorem dX4_makeOf_5 : decode cX4_makeOf 5 = .ok (.iload_n 1, 1) := by decide +kernel
theorem dX4_makeOf_6 : decode cX4_makeOf 6 = .ok (.iload_n 2, 1) := by decide +kernel
theorem dX4_makeOf_7 : decode cX4_makeOf 7 = .ok (.invokevirtual 62, 3) := by decide +kernel
theorem dX4_makeOf_10 : decode cX4_makeOf 10 = .ok (.aload_n 0, 1) := by decide +kernel
theorem dX4_makeOf_11 : decode cX4_makeOf 11 = .ok (.getfield 41, 3) := by decide +kernel
theorem dX4_makeOf_14 : decode cX4_makeOf 14 = .ok (.invokevirtual 67, 3) := by decide +kernel
theorem dX4_makeOf_17 : decode cX4_makeOf 17 = .ok (.ireturn, 1) := by decide +kernel
theorem dX4_unlikeWords_0 : decode cX4_unlikeWords 0 = .ok (.iconst 0, 1) := by decide +kernel
theorem dX4_unlikeWords_1 : decode cX4_unlikeWords 1 = .ok (.istore_n 2, 1) := by decide +kernel
theorem dX4_unlikeWords_2 : decode cX4_unlikeWords 2 = .ok (.iconst 0, 1) := by decide +kernel
theorem dX4_unlikeWords_3 : decode cX4_unlikeWords 3 = .ok (.istore_n 3, 1) := by decide +kernel
theorem dX4_unlikeWords_4 : decode cX4_unlikeWords 4 = .ok (.iload_n 3, 1) := by decide +kernel
theorem dX4_unlikeWords_5 : decode cX4_unlikeWords 5 = .ok (.aload_n 0, 1) := by decide +kernel
theorem dX4_unlikeWords_6 : decode cX4_unlikeWords 6 = .ok (.getfield 24, 3) := by decide +kernel
theorem dX4_unlikeWords_9 : decode cX4_unlikeWords 9 = .ok (.getfield 70, 3) := by decide +kernel
theorem dX4_unlikeWords_12 : decode cX4_unlikeWords 12 = .ok (.if_icmp .ge 68, 3) := by decide +kernel
theorem dX4_unlikeWords_15 : decode cX4_unlikeWords 15 = .ok (.iconst 0, 1) := by decide +kernel
theorem dX4_unlikeWords_16 : decode cX4_unlikeWords 16 = .ok (.istore 4, 2) := by decide +kernel
theorem dX4_unlikeWords_18 : decode cX4_unlikeWords 18 = .ok (.iload 4, 2) := by decide +kernel
theorem dX4_unlikeWords_20 : decode cX4_unlikeWords 20 = .ok (.aload_n 0, 1) := by decide +kernel
theorem dX4_unlikeWords_21 : decode cX4_unlikeWords 21 = .ok (.getfield 24, 3) := by decide +kernel
theorem dX4_unlikeWords_24 : decode cX4_unlikeWords 24 = .ok (.getfield 73, 3) := by decide +kernel
theorem dX4_unlikeWords_27 : decode cX4_unlikeWords 27 = .ok (.if_icmp .ge 47, 3) := by decide +kernel
theorem dX4_unlikeWords_30 : decode cX4_unlikeWords 30 = .ok (.aload_n 0, 1) := by decide +kernel
theorem dX4_unlikeWords_31 : decode cX4_unlikeWords 31 = .ok (.aload_n 0, 1) := by decide +kernel
theorem dX4_unlikeWords_32 : decode cX4_unlikeWords 32 = .ok (.getfield 24, 3) := by decide +kernel
theorem dX4_unlikeWords_35 : decode cX4_unlikeWords 35 = .ok (.iload_n 3, 1) := by decide +kernel
theorem dX4_unlikeWords_36 : decode cX4_unlikeWords 36 = .ok (.iload 4, 2) := by decide +kernel
theorem dX4_unlikeWords_38 : decode cX4_unlikeWords 38 = .ok (.invokevirtual 62, 3) := by decide +kernel
theorem dX4_unlikeWords_41 : decode cX4_unlikeWords 41 = .ok (.iload_n 1, 1) := by decide +kernel
theorem dX4_unlikeWords_42 : decode cX4_unlikeWords 42 = .ok (.invokevirtual 76, 3) := by decide +kernel
theorem dX4_unlikeWords_45 : decode cX4_unlikeWords 45 = .ok (.istore 5, 2) := by decide +kernel
theorem dX4_unlikeWords_47 : decode cX4_unlikeWords 47 = .ok (.aload_n 0, 1) := by decide +kernel
theorem dX4_unlikeWords_48 : decode cX4_unlikeWords 48 = .ok (.iload 5, 2) := by decide +kernel
theorem dX4_unlikeWords_50 : decode cX4_unlikeWords 50 = .ok (.iload_n 2, 1) := by decide +kernel
theorem dX4_unlikeWords_51 : decode cX4_unlikeWords 51 = .ok (.invokevirtual 79, 3) := by decide +kernel
theorem dX4_unlikeWords_54 : decode cX4_unlikeWords 54 = .ok (.ifCond .ne 14, 3) := by decide +kernel
theorem dX4_unlikeWords_57 : decode cX4_unlikeWords 57 = .ok (.aload_n 0, 1) := by decide +kernel
theorem dX4_unlikeWords_58 : decode cX4_unlikeWords 58 = .ok (.getfield 21, 3) := by decide +kernel
theorem dX4_unlikeWords_61 : decode cX4_unlikeWords 61 = .ok (.iload_n 2, 1) := by decide +kernel
theorem dX4_unlikeWords_62 : decode cX4_unlikeWords 62 = .ok (.iload 5, 2) := by decide +kernel
theorem dX4_unlikeWords_64 : decode cX4_unlikeWords 64 = .ok (.iastore, 1) := by decide +kernel
theorem dX4_unlikeWords_65 : decode cX4_unlikeWords 65 = .ok (.iinc 2 1, 3) := by decide +kernel
theorem dX4_unlikeWords_68 : decode cX4_unlikeWords 68 = .ok (.iinc 4 1, 3) := by decide +kernel
theorem dX4_unlikeWords_71 : decode cX4_unlikeWords 71 = .ok (.goto (-53), 3) := by decide +kernel
theorem dX4_unlikeWords_74 : decode cX4_unlikeWords 74 = .ok (.iinc 3 1, 3) := by decide +kernel
theorem dX4_unlikeWords_77 : decode cX4_unlikeWords 77 = .ok (.goto (-73), 3) := by decide +kernel
theorem dX4_unlikeWords_80 : decode cX4_unlikeWords 80 = .ok (.iload_n 2, 1) := by decide +kernel
theorem dX4_unlikeWords_81 : decode cX4_unlikeWords 81 = .ok (.ireturn, 1) := by decide +kernel
theorem dX4_isAmongUnlike_0 : decode cX4_isAmongUnlike 0 = .ok (.iconst 0, 1) := by decide +kernel
theorem dX4_isAmongUnlike_1 : decode cX4_isAmongUnlike 1 = .ok (.istore_n 3, 1) := by decide +kernel
theorem dX4_isAmongUnlike_2 : decode cX4_isAmongUnlike 2 = .ok (.iload_n 3, 1) := by decide +kernel
theorem dX4_isAmongUnlike_3 : decode cX4_isAmongUnlike 3 = .ok (.iload_n 2, 1) := by decide +kernel
theorem dX4_isAmongUnlike_4 : decode cX4_isAmongUnlike 4 = .ok (.if_icmp .ge 21, 3) := by decide +kernel
theorem dX4_isAmongUnlike_7 : decode cX4_isAmongUnlike 7 = .ok (.aload_n 0, 1) := by decide +kernel
theorem dX4_isAmongUnlike_8 : decode cX4_isAmongUnlike 8 = .ok (.getfield 21, 3) := by decide +kernel
theorem dX4_isAmongUnlike_11 : decode cX4_isAmongUnlike 11 = .ok (.iload_n 3, 1) := by decide +kernel
theorem dX4_isAmongUnlike_12 : decode cX4_isAmongUnlike 12 = .ok (.iaload, 1) := by decide +kernel
theorem dX4_isAmongUnlike_13 : decode cX4_isAmongUnlike 13 = .ok (.iload_n 1, 1) := by decide +kernel
theorem dX4_isAmongUnlike_14 : decode cX4_isAmongUnlike 14 = .ok (.if_icmp .ne 5, 3) := by decide +kernel
theorem dX4_isAmongUnlike_17 : decode cX4_isAmongUnlike 17 = .ok (.iconst 1, 1) := by decide +kernel
theorem dX4_isAmongUnlike_18 : decode cX4_isAmongUnlike 18 = .ok (.ireturn, 1) := by decide +kernel
theorem dX4_isAmongUnlike_19 : decode cX4_isAmongUnlike 19 = .ok (.iinc 3 1, 3) := by decide +kernel
theorem dX4_isAmongUnlike_22 : decode cX4_isAmongUnlike 22 = .ok (.goto (-20), 3) := by decide +kernel
theorem dX4_isAmongUnlike_25 : decode cX4_isAmongUnlike 25 = .ok (.iconst 0, 1) := by decide +kernel
theorem dX4_isAmongUnlike_26 : decode cX4_isAmongUnlike 26 = .ok (.ireturn, 1) := by decide +kernel
theorem dX4_activeChanges_0 : decode cX4_activeChanges 0 = .ok (.iconst 0, 1) := by decide +kernel
theorem dX4_activeChanges_1 : decode cX4_activeChanges 1 = .ok (.istore_n 1, 1) := by decide +kernel
theorem dX4_activeChanges_2 : decode cX4_activeChanges 2 = .ok (.iconst 0, 1) := by decide +kernel
theorem dX4_activeChanges_3 : decode cX4_activeChanges 3 = .ok (.istore_n 2, 1) := by decide +kernel
theorem dX4_activeChanges_4 : decode cX4_activeChanges 4 = .ok (.iload_n 2, 1) := by decide +kernel
theorem dX4_activeChanges_5 : decode cX4_activeChanges 5 = .ok (.aload_n 0, 1) := by decide +kernel
theorem dX4_activeChanges_6 : decode cX4_activeChanges 6 = .ok (.getfield 24, 3) := by decide +kernel
theorem dX4_activeChanges_9 : decode cX4_activeChanges 9 = .ok (.getfield 70, 3) := by decide +kernel
theorem dX4_activeChanges_12 : decode cX4_activeChanges 12 = .ok (.if_icmp .ge 44, 3) := by decide +kernel
theorem dX4_activeChanges_15 : decode cX4_activeChanges 15 = .ok (.iconst 0, 1) := by decide +kernel
theorem dX4_activeChanges_16 : decode cX4_activeChanges 16 = .ok (.istore_n 3, 1) := by decide +kernel
theorem dX4_activeChanges_17 : decode cX4_activeChanges 17 = .ok (.iload_n 3, 1) := by decide +kernel
theorem dX4_activeChanges_18 : decode cX4_activeChanges 18 = .ok (.aload_n 0, 1) := by decide +kernel
theorem dX4_activeChanges_19 : decode cX4_activeChanges 19 = .ok (.getfield 24, 3) := by decide +kernel
theorem dX4_activeChanges_22 : decode cX4_activeChanges 22 = .ok (.getfield 73, 3) := by decide +kernel
theorem dX4_activeChanges_25 : decode cX4_activeChanges 25 = .ok (.if_icmp .ge 25, 3) := by decide +kernel
theorem dX4_activeChanges_28 : decode cX4_activeChanges 28 = .ok (.iload_n 1, 1) := by decide +kernel
theorem dX4_activeChanges_29 : decode cX4_activeChanges 29 = .ok (.aload_n 0, 1) := by decide +kernel
theorem dX4_activeChanges_30 : decode cX4_activeChanges 30 = .ok (.aload_n 0, 1) := by decide +kernel
theorem dX4_activeChanges_31 : decode cX4_activeChanges 31 = .ok (.getfield 24, 3) := by decide +kernel
theorem dX4_activeChanges_34 : decode cX4_activeChanges 34 = .ok (.iload_n 2, 1) := by decide +kernel
theorem dX4_activeChanges_35 : decode cX4_activeChanges 35 = .ok (.iload_n 3, 1) := by decide +kernel
theorem dX4_activeChanges_36 : decode cX4_activeChanges 36 = .ok (.invokevirtual 62, 3) := by decide +kernel
theorem dX4_activeChanges_39 : decode cX4_activeChanges 39 = .ok (.invokevirtual 82, 3) := by decide +kernel
theorem dX4_activeChanges_42 : decode cX4_activeChanges 42 = .ok (.ior, 1) := by decide +kernel
theorem dX4_activeChanges_43 : decode cX4_activeChanges 43 = .ok (.istore_n 1, 1) := by decide +kernel
theorem dX4_activeChanges_44 : decode cX4_activeChanges 44 = .ok (.iinc 3 1, 3) := by decide +kernel
theorem dX4_activeChanges_47 : decode cX4_activeChanges 47 = .ok (.goto (-30), 3) := by decide +kernel
theorem dX4_activeChanges_50 : decode cX4_activeChanges 50 = .ok (.iinc 2 1, 3) := by decide +kernel
theorem dX4_activeChanges_53 : decode cX4_activeChanges 53 = .ok (.goto (-49), 3) := by decide +kernel
theorem dX4_activeChanges_56 : decode cX4_activeChanges 56 = .ok (.iload_n 1, 1) := by decide +kernel
theorem dX4_activeChanges_57 : decode cX4_activeChanges 57 = .ok (.ireturn, 1) := by decide +kernel
theorem dX4_activeOver_0 : decode cX4_activeOver 0 = .ok (.iconst 0, 1) := by decide +kernel
theorem dX4_activeOver_1 : decode cX4_activeOver 1 = .ok (.istore_n 2, 1) := by decide +kernel
theorem dX4_activeOver_2 : decode cX4_activeOver 2 = .ok (.iload_n 1, 1) := by decide +kernel
theorem dX4_activeOver_3 : decode cX4_activeOver 3 = .ok (.istore_n 3, 1) := by decide +kernel
theorem dX4_activeOver_4 : decode cX4_activeOver 4 = .ok (.iconst 0, 1) := by decide +kernel
theorem dX4_activeOver_5 : decode cX4_activeOver 5 = .ok (.istore 4, 2) := by decide +kernel
theorem dX4_activeOver_7 : decode cX4_activeOver 7 = .ok (.iload 4, 2) := by decide +kernel
theorem dX4_activeOver_9 : decode cX4_activeOver 9 = .ok (.aload_n 0, 1) := by decide +kernel
theorem dX4_activeOver_10 : decode cX4_activeOver 10 = .ok (.getfield 41, 3) := by decide +kernel
theorem dX4_activeOver_13 : decode cX4_activeOver 13 = .ok (.if_icmp .ge 44, 3) := by decide +kernel
theorem dX4_activeOver_16 : decode cX4_activeOver 16 = .ok (.aload_n 0, 1) := by decide +kernel
theorem dX4_activeOver_17 : decode cX4_activeOver 17 = .ok (.aload_n 0, 1) := by decide +kernel
theorem dX4_activeOver_18 : decode cX4_activeOver 18 = .ok (.getfield 15, 3) := by decide +kernel
theorem dX4_activeOver_21 : decode cX4_activeOver 21 = .ok (.iload 4, 2) := by decide +kernel
theorem dX4_activeOver_23 : decode cX4_activeOver 23 = .ok (.iaload, 1) := by decide +kernel
theorem dX4_activeOver_24 : decode cX4_activeOver 24 = .ok (.iload_n 3, 1) := by decide +kernel
theorem dX4_activeOver_25 : decode cX4_activeOver 25 = .ok (.invokevirtual 59, 3) := by decide +kernel
theorem dX4_activeOver_28 : decode cX4_activeOver 28 = .ok (.istore 5, 2) := by decide +kernel
theorem dX4_activeOver_30 : decode cX4_activeOver 30 = .ok (.iload 5, 2) := by decide +kernel
theorem dX4_activeOver_32 : decode cX4_activeOver 32 = .ok (.iload_n 3, 1) := by decide +kernel
theorem dX4_activeOver_33 : decode cX4_activeOver 33 = .ok (.if_icmp .eq 15, 3) := by decide +kernel
theorem dX4_activeOver_36 : decode cX4_activeOver 36 = .ok (.iload_n 2, 1) := by decide +kernel
theorem dX4_activeOver_37 : decode cX4_activeOver 37 = .ok (.iconst 1, 1) := by decide +kernel
theorem dX4_activeOver_38 : decode cX4_activeOver 38 = .ok (.aload_n 0, 1) := by decide +kernel
theorem dX4_activeOver_39 : decode cX4_activeOver 39 = .ok (.getfield 15, 3) := by decide +kernel
theorem dX4_activeOver_42 : decode cX4_activeOver 42 = .ok (.iload 4, 2) := by decide +kernel
theorem dX4_activeOver_44 : decode cX4_activeOver 44 = .ok (.iaload, 1) := by decide +kernel
theorem dX4_activeOver_45 : decode cX4_activeOver 45 = .ok (.ishl, 1) := by decide +kernel
theorem dX4_activeOver_46 : decode cX4_activeOver 46 = .ok (.ior, 1) := by decide +kernel
theorem dX4_activeOver_47 : decode cX4_activeOver 47 = .ok (.istore_n 2, 1) := by decide +kernel
theorem dX4_activeOver_48 : decode cX4_activeOver 48 = .ok (.iload 5, 2) := by decide +kernel
theorem dX4_activeOver_50 : decode cX4_activeOver 50 = .ok (.istore_n 3, 1) := by decide +kernel
theorem dX4_activeOver_51 : decode cX4_activeOver 51 = .ok (.iinc 4 1, 3) := by decide +kernel
theorem dX4_activeOver_54 : decode cX4_activeOver 54 = .ok (.goto (-47), 3) := by decide +kernel
theorem dX4_activeOver_57 : decode cX4_activeOver 57 = .ok (.iload_n 2, 1) := by decide +kernel
theorem dX4_activeOver_58 : decode cX4_activeOver 58 = .ok (.ireturn, 1) := by decide +kernel
theorem dX4_exceptions_0 : decode cX4_exceptions 0 = .ok (.iconst 0, 1) := by decide +kernel
theorem dX4_exceptions_1 : decode cX4_exceptions 1 = .ok (.istore_n 1, 1) := by decide +kernel
theorem dX4_exceptions_2 : decode cX4_exceptions 2 = .ok (.iconst 0, 1) := by decide +kernel
theorem dX4_exceptions_3 : decode cX4_exceptions 3 = .ok (.istore_n 2, 1) := by decide +kernel
theorem dX4_exceptions_4 : decode cX4_exceptions 4 = .ok (.iload_n 2, 1) := by decide +kernel
theorem dX4_exceptions_5 : decode cX4_exceptions 5 = .ok (.aload_n 0, 1) := by decide +kernel
theorem dX4_exceptions_6 : decode cX4_exceptions 6 = .ok (.getfield 24, 3) := by decide +kernel
theorem dX4_exceptions_9 : decode cX4_exceptions 9 = .ok (.getfield 70, 3) := by decide +kernel
theorem dX4_exceptions_12 : decode cX4_exceptions 12 = .ok (.if_icmp .ge 57, 3) := by decide +kernel
theorem dX4_exceptions_15 : decode cX4_exceptions 15 = .ok (.iconst 0, 1) := by decide +kernel
theorem dX4_exceptions_16 : decode cX4_exceptions 16 = .ok (.istore_n 3, 1) := by decide +kernel
theorem dX4_exceptions_17 : decode cX4_exceptions 17 = .ok (.iload_n 3, 1) := by decide +kernel
theorem dX4_exceptions_18 : decode cX4_exceptions 18 = .ok (.aload_n 0, 1) := by decide +kernel
theorem dX4_exceptions_19 : decode cX4_exceptions 19 = .ok (.getfield 24, 3) := by decide +kernel
theorem dX4_exceptions_22 : decode cX4_exceptions 22 = .ok (.getfield 73, 3) := by decide +kernel
theorem dX4_exceptions_25 : decode cX4_exceptions 25 = .ok (.if_icmp .ge 38, 3) := by decide +kernel
theorem dX4_exceptions_28 : decode cX4_exceptions 28 = .ok (.aload_n 0, 1) := by decide +kernel
theorem dX4_exceptions_29 : decode cX4_exceptions 29 = .ok (.iload_n 2, 1) := by decide +kernel
theorem dX4_exceptions_30 : decode cX4_exceptions 30 = .ok (.iload_n 3, 1) := by decide +kernel
theorem dX4_exceptions_31 : decode cX4_exceptions 31 = .ok (.invokevirtual 86, 3) := by decide +kernel
theorem dX4_exceptions_34 : decode cX4_exceptions 34 = .ok (.istore 4, 2) := by decide +kernel
theorem dX4_exceptions_36 : decode cX4_exceptions 36 = .ok (.iload 4, 2) := by decide +kernel
theorem dX4_exceptions_38 : decode cX4_exceptions 38 = .ok (.bipush (-9), 2) := by decide +kernel
theorem dX4_exceptions_40 : decode cX4_exceptions 40 = .ok (.if_icmp .eq 17, 3) := by decide +kernel
theorem dX4_exceptions_43 : decode cX4_exceptions 43 = .ok (.iload 4, 2) := by decide +kernel
theorem dX4_exceptions_45 : decode cX4_exceptions 45 = .ok (.aload_n 0, 1) := by decide +kernel
theorem dX4_exceptions_46 : decode cX4_exceptions 46 = .ok (.iload_n 2, 1) := by decide +kernel
theorem dX4_exceptions_47 : decode cX4_exceptions 47 = .ok (.iload_n 3, 1) := by decide +kernel
theorem dX4_exceptions_48 : decode cX4_exceptions 48 = .ok (.invokevirtual 89, 3) := by decide +kernel
theorem dX4_exceptions_51 : decode cX4_exceptions 51 = .ok (.if_icmp .eq 6, 3) := by decide +kernel
theorem dX4_exceptions_54 : decode cX4_exceptions 54 = .ok (.iinc 1 1, 3) := by decide +kernel
theorem dX4_exceptions_57 : decode cX4_exceptions 57 = .ok (.iinc 3 1, 3) := by decide +kernel
theorem dX4_exceptions_60 : decode cX4_exceptions 60 = .ok (.goto (-43), 3) := by decide +kernel
theorem dX4_exceptions_63 : decode cX4_exceptions 63 = .ok (.iinc 2 1, 3) := by decide +kernel
theorem dX4_exceptions_66 : decode cX4_exceptions 66 = .ok (.goto (-62), 3) := by decide +kernel
theorem dX4_exceptions_69 : decode cX4_exceptions 69 = .ok (.iload_n 1, 1) := by decide +kernel
theorem dX4_exceptions_70 : decode cX4_exceptions 70 = .ok (.ireturn, 1) := by decide +kernel
theorem dX4_doCross_0 : decode cX4_doCross 0 = .ok (.iconst 0, 1) := by decide +kernel
theorem dX4_doCross_1 : decode cX4_doCross 1 = .ok (.istore_n 3, 1) := by decide +kernel
theorem dX4_doCross_2 : decode cX4_doCross 2 = .ok (.iload_n 3, 1) := by decide +kernel
theorem dX4_doCross_3 : decode cX4_doCross 3 = .ok (.aload_n 0, 1) := by decide +kernel
theorem dX4_doCross_4 : decode cX4_doCross 4 = .ok (.getfield 24, 3) := by decide +kernel
theorem dX4_doCross_7 : decode cX4_doCross 7 = .ok (.getfield 70, 3) := by decide +kernel
theorem dX4_doCross_10 : decode cX4_doCross 10 = .ok (.if_icmp .ge 71, 3) := by decide +kernel
theorem dX4_doCross_13 : decode cX4_doCross 13 = .ok (.iconst 0, 1) := by decide +kernel
theorem dX4_doCross_14 : decode cX4_doCross 14 = .ok (.istore 4, 2) := by decide +kernel
theorem dX4_doCross_16 : decode cX4_doCross 16 = .ok (.iload 4, 2) := by decide +kernel
theorem dX4_doCross_18 : decode cX4_doCross 18 = .ok (.aload_n 0, 1) := by decide +kernel
theorem dX4_doCross_19 : decode cX4_doCross 19 = .ok (.getfield 24, 3) := by decide +kernel
theorem dX4_doCross_22 : decode cX4_doCross 22 = .ok (.getfield 73, 3) := by decide +kernel
theorem dX4_doCross_25 : decode cX4_doCross 25 = .ok (.if_icmp .ge 50, 3) := by decide +kernel
theorem dX4_doCross_28 : decode cX4_doCross 28 = .ok (.aload_n 0, 1) := by decide +kernel
theorem dX4_doCross_29 : decode cX4_doCross 29 = .ok (.getfield 24, 3) := by decide +kernel
theorem dX4_doCross_32 : decode cX4_doCross 32 = .ok (.iload_n 3, 1) := by decide +kernel
theorem dX4_doCross_33 : decode cX4_doCross 33 = .ok (.iload 4, 2) := by decide +kernel
theorem dX4_doCross_35 : decode cX4_doCross 35 = .ok (.invokevirtual 62, 3) := by decide +kernel
theorem dX4_doCross_38 : decode cX4_doCross 38 = .ok (.istore 5, 2) := by decide +kernel
theorem dX4_doCross_40 : decode cX4_doCross 40 = .ok (.aload_n 0, 1) := by decide +kernel
theorem dX4_doCross_41 : decode cX4_doCross 41 = .ok (.iload_n 2, 1) := by decide +kernel
theorem dX4_doCross_42 : decode cX4_doCross 42 = .ok (.aload_n 0, 1) := by decide +kernel
theorem dX4_doCross_43 : decode cX4_doCross 43 = .ok (.iload_n 1, 1) := by decide +kernel
theorem dX4_doCross_44 : decode cX4_doCross 44 = .ok (.iload 5, 2) := by decide +kernel
theorem dX4_doCross_46 : decode cX4_doCross 46 = .ok (.invokevirtual 59, 3) := by decide +kernel
theorem dX4_doCross_49 : decode cX4_doCross 49 = .ok (.invokevirtual 59, 3) := by decide +kernel
theorem dX4_doCross_52 : decode cX4_doCross 52 = .ok (.aload_n 0, 1) := by decide +kernel
theorem dX4_doCross_53 : decode cX4_doCross 53 = .ok (.iload_n 1, 1) := by decide +kernel
theorem dX4_doCross_54 : decode cX4_doCross 54 = .ok (.aload_n 0, 1) := by decide +kernel
theorem dX4_doCross_55 : decode cX4_doCross 55 = .ok (.iload_n 2, 1) := by decide +kernel
theorem dX4_doCross_56 : decode cX4_doCross 56 = .ok (.iload 5, 2) := by decide +kernel
theorem dX4_doCross_58 : decode cX4_doCross 58 = .ok (.invokevirtual 59, 3) := by decide +kernel
theorem dX4_doCross_61 : decode cX4_doCross 61 = .ok (.invokevirtual 59, 3) := by decide +kernel
theorem dX4_doCross_64 : decode cX4_doCross 64 = .ok (.if_icmp .eq 5, 3) := by decide +kernel
theorem dX4_doCross_67 : decode cX4_doCross 67 = .ok (.iconst 1, 1) := by decide +kernel
theorem dX4_doCross_68 : decode cX4_doCross 68 = .ok (.ireturn, 1) := by decide +kernel
theorem dX4_doCross_69 : decode cX4_doCross 69 = .ok (.iinc 4 1, 3) := by decide +kernel
theorem dX4_doCross_72 : decode cX4_doCross 72 = .ok (.goto (-56), 3) := by decide +kernel
theorem dX4_doCross_75 : decode cX4_doCross 75 = .ok (.iinc 3 1, 3) := by decide +kernel
theorem dX4_doCross_78 : decode cX4_doCross 78 = .ok (.goto (-76), 3) := by decide +kernel
theorem dX4_doCross_81 : decode cX4_doCross 81 = .ok (.iconst 0, 1) := by decide +kernel
theorem dX4_doCross_82 : decode cX4_doCross 82 = .ok (.ireturn, 1) := by decide +kernel
theorem dX5_isWord_0 : decode cX5_isWord 0 = .ok (.iload_n 0, 1) := by decide +kernel
theorem dX5_isWord_1 : decode cX5_isWord 1 = .ok (.ifCond .lt 9, 3) := by decide +kernel
theorem dX5_isWord_4 : decode cX5_isWord 4 = .ok (.iload_n 0, 1) := by decide +kernel
theorem dX5_isWord_5 : decode cX5_isWord 5 = .ok (.ldc 9, 2) := by decide +kernel
theorem dX5_isWord_7 : decode cX5_isWord 7 = .ok (.if_icmp .le 5, 3) := by decide +kernel
theorem dX5_isWord_10 : decode cX5_isWord 10 = .ok (.iconst 0, 1) := by decide +kernel
theorem dX5_isWord_11 : decode cX5_isWord 11 = .ok (.ireturn, 1) := by decide +kernel
theorem dX5_isWord_12 : decode cX5_isWord 12 = .ok (.iload_n 0, 1) := by decide +kernel
theorem dX5_isWord_13 : decode cX5_isWord 13 = .ok (.istore_n 1, 1) := by decide +kernel
theorem dX5_isWord_14 : decode cX5_isWord 14 = .ok (.iconst 0, 1) := by decide +kernel
theorem dX5_isWord_15 : decode cX5_isWord 15 = .ok (.istore_n 2, 1) := by decide +kernel
theorem dX5_isWord_16 : decode cX5_isWord 16 = .ok (.iload_n 2, 1) := by decide +kernel
theorem dX5_isWord_17 : decode cX5_isWord 17 = .ok (.bipush 6, 2) := by decide +kernel
theorem dX5_isWord_19 : decode cX5_isWord 19 = .ok (.if_icmp .ge 35, 3) := by decide +kernel
theorem dX5_isWord_22 : decode cX5_isWord 22 = .ok (.iload_n 1, 1) := by decide +kernel
theorem dX5_isWord_23 : decode cX5_isWord 23 = .ok (.ifCond .le 31, 3) := by decide +kernel
theorem dX5_isWord_26 : decode cX5_isWord 26 = .ok (.iload_n 1, 1) := by decide +kernel
theorem dX5_isWord_27 : decode cX5_isWord 27 = .ok (.bipush 10, 2) := by decide +kernel
theorem dX5_isWord_29 : decode cX5_isWord 29 = .ok (.irem, 1) := by decide +kernel
theorem dX5_isWord_30 : decode cX5_isWord 30 = .ok (.istore_n 3, 1) := by decide +kernel
theorem dX5_isWord_31 : decode cX5_isWord 31 = .ok (.iload_n 3, 1) := by decide +kernel
theorem dX5_isWord_32 : decode cX5_isWord 32 = .ok (.iconst 1, 1) := by decide +kernel
theorem dX5_isWord_33 : decode cX5_isWord 33 = .ok (.if_icmp .lt 8, 3) := by decide +kernel
theorem dX5_isWord_36 : decode cX5_isWord 36 = .ok (.iload_n 3, 1) := by decide +kernel
theorem dX5_isWord_37 : decode cX5_isWord 37 = .ok (.iconst 5, 1) := by decide +kernel
theorem dX5_isWord_38 : decode cX5_isWord 38 = .ok (.if_icmp .le 5, 3) := by decide +kernel
theorem dX5_isWord_41 : decode cX5_isWord 41 = .ok (.iconst 0, 1) := by decide +kernel
theorem dX5_isWord_42 : decode cX5_isWord 42 = .ok (.ireturn, 1) := by decide +kernel
theorem dX5_isWord_43 : decode cX5_isWord 43 = .ok (.iload_n 1, 1) := by decide +kernel
theorem dX5_isWord_44 : decode cX5_isWord 44 = .ok (.bipush 10, 2) := by decide +kernel
theorem dX5_isWord_46 : decode cX5_isWord 46 = .ok (.idiv, 1) := by decide +kernel
theorem dX5_isWord_47 : decode cX5_isWord 47 = .ok (.istore_n 1, 1) := by decide +kernel
theorem dX5_isWord_48 : decode cX5_isWord 48 = .ok (.iinc 2 1, 3) := by decide +kernel
theorem dX5_isWord_51 : decode cX5_isWord 51 = .ok (.goto (-35), 3) := by decide +kernel
theorem dX5_isWord_54 : decode cX5_isWord 54 = .ok (.iconst 1, 1) := by decide +kernel
theorem dX5_isWord_55 : decode cX5_isWord 55 = .ok (.ireturn, 1) := by decide +kernel
theorem dX5_lengthOf_0 : decode cX5_lengthOf 0 = .ok (.iconst 0, 1) := by decide +kernel
theorem dX5_lengthOf_1 : decode cX5_lengthOf 1 = .ok (.istore_n 1, 1) := by decide +kernel
theorem dX5_lengthOf_2 : decode cX5_lengthOf 2 = .ok (.iload_n 0, 1) := by decide +kernel
theorem dX5_lengthOf_3 : decode cX5_lengthOf 3 = .ok (.istore_n 2, 1) := by decide +kernel
theorem dX5_lengthOf_4 : decode cX5_lengthOf 4 = .ok (.iconst 0, 1) := by decide +kernel
theorem dX5_lengthOf_5 : decode cX5_lengthOf 5 = .ok (.istore_n 3, 1) := by decide +kernel
theorem dX5_lengthOf_6 : decode cX5_lengthOf 6 = .ok (.iload_n 3, 1) := by decide +kernel
theorem dX5_lengthOf_7 : decode cX5_lengthOf 7 = .ok (.bipush 6, 2) := by decide +kernel
theorem dX5_lengthOf_9 : decode cX5_lengthOf 9 = .ok (.if_icmp .ge 21, 3) := by decide +kernel
theorem dX5_lengthOf_12 : decode cX5_lengthOf 12 = .ok (.iload_n 2, 1) := by decide +kernel
theorem dX5_lengthOf_13 : decode cX5_lengthOf 13 = .ok (.ifCond .le 17, 3) := by decide +kernel
theorem dX5_lengthOf_16 : decode cX5_lengthOf 16 = .ok (.iload_n 2, 1) := by decide +kernel
theorem dX5_lengthOf_17 : decode cX5_lengthOf 17 = .ok (.bipush 10, 2) := by decide +kernel
theorem dX5_lengthOf_19 : decode cX5_lengthOf 19 = .ok (.idiv, 1) := by decide +kernel
theorem dX5_lengthOf_20 : decode cX5_lengthOf 20 = .ok (.istore_n 2, 1) := by decide +kernel
theorem dX5_lengthOf_21 : decode cX5_lengthOf 21 = .ok (.iinc 1 1, 3) := by decide +kernel
theorem dX5_lengthOf_24 : decode cX5_lengthOf 24 = .ok (.iinc 3 1, 3) := by decide +kernel
theorem dX5_lengthOf_27 : decode cX5_lengthOf 27 = .ok (.goto (-21), 3) := by decide +kernel
theorem dX5_lengthOf_30 : decode cX5_lengthOf 30 = .ok (.iload_n 1, 1) := by decide +kernel
theorem dX5_lengthOf_31 : decode cX5_lengthOf 31 = .ok (.ireturn, 1) := by decide +kernel
theorem dX5_letterAt_0 : decode cX5_letterAt 0 = .ok (.iload_n 0, 1) := by decide +kernel
theorem dX5_letterAt_1 : decode cX5_letterAt 1 = .ok (.invokestatic 10, 3) := by decide +kernel
end
section
theorem dX5_letterAt_4 : decode cX5_letterAt 4 = .ok (.iconst 1, 1) := by decide +kernel
theorem dX5_letterAt_5 : decode cX5_letterAt 5 = .ok (.isub, 1) := by decide +kernel
theorem dX5_letterAt_6 : decode cX5_letterAt 6 = .ok (.iload_n 1, 1) := by decide +kernel
theorem dX5_letterAt_7 : decode cX5_letterAt 7 = .ok (.isub, 1) := by decide +kernel
theorem dX5_letterAt_8 : decode cX5_letterAt 8 = .ok (.istore_n 2, 1) := by decide +kernel
theorem dX5_letterAt_9 : decode cX5_letterAt 9 = .ok (.iload_n 2, 1) := by decide +kernel
theorem dX5_letterAt_10 : decode cX5_letterAt 10 = .ok (.ifCond .ge 5, 3) := by decide +kernel
theorem dX5_letterAt_13 : decode cX5_letterAt 13 = .ok (.iconst 0, 1) := by decide +kernel
theorem dX5_letterAt_14 : decode cX5_letterAt 14 = .ok (.ireturn, 1) := by decide +kernel
theorem dX5_letterAt_15 : decode cX5_letterAt 15 = .ok (.iload_n 0, 1) := by decide +kernel
theorem dX5_letterAt_16 : decode cX5_letterAt 16 = .ok (.istore_n 3, 1) := by decide +kernel
theorem dX5_letterAt_17 : decode cX5_letterAt 17 = .ok (.iconst 0, 1) := by decide +kernel
theorem dX5_letterAt_18 : decode cX5_letterAt 18 = .ok (.istore 4, 2) := by decide +kernel
theorem dX5_letterAt_20 : decode cX5_letterAt 20 = .ok (.iload 4, 2) := by decide +kernel
theorem dX5_letterAt_22 : decode cX5_letterAt 22 = .ok (.iload_n 2, 1) := by decide +kernel
theorem dX5_letterAt_23 : decode cX5_letterAt 23 = .ok (.if_icmp .ge 14, 3) := by decide +kernel
theorem dX5_letterAt_26 : decode cX5_letterAt 26 = .ok (.iload_n 3, 1) := by decide +kernel
theorem dX5_letterAt_27 : decode cX5_letterAt 27 = .ok (.bipush 10, 2) := by decide +kernel
theorem dX5_letterAt_29 : decode cX5_letterAt 29 = .ok (.idiv, 1) := by decide +kernel
theorem dX5_letterAt_30 : decode cX5_letterAt 30 = .ok (.istore_n 3, 1) := by decide +kernel
theorem dX5_letterAt_31 : decode cX5_letterAt 31 = .ok (.iinc 4 1, 3) := by decide +kernel
theorem dX5_letterAt_34 : decode cX5_letterAt 34 = .ok (.goto (-14), 3) := by decide +kernel
theorem dX5_letterAt_37 : decode cX5_letterAt 37 = .ok (.iload_n 3, 1) := by decide +kernel
theorem dX5_letterAt_38 : decode cX5_letterAt 38 = .ok (.bipush 10, 2) := by decide +kernel
theorem dX5_letterAt_40 : decode cX5_letterAt 40 = .ok (.irem, 1) := by decide +kernel
theorem dX5_letterAt_41 : decode cX5_letterAt 41 = .ok (.ireturn, 1) := by decide +kernel
theorem dX5_join_0 : decode cX5_join 0 = .ok (.iload_n 1, 1) := by decide +kernel
theorem dX5_join_1 : decode cX5_join 1 = .ok (.bipush 10, 2) := by decide +kernel
theorem dX5_join_3 : decode cX5_join 3 = .ok (.if_icmp .ge 8, 3) := by decide +kernel
theorem dX5_join_6 : decode cX5_join 6 = .ok (.bipush 10, 2) := by decide +kernel
theorem dX5_join_8 : decode cX5_join 8 = .ok (.goto 5, 3) := by decide +kernel
theorem dX5_join_11 : decode cX5_join 11 = .ok (.bipush 100, 2) := by decide +kernel
theorem dX5_join_13 : decode cX5_join 13 = .ok (.iload_n 0, 1) := by decide +kernel
theorem dX5_join_14 : decode cX5_join 14 = .ok (.imul, 1) := by decide +kernel
theorem dX5_join_15 : decode cX5_join 15 = .ok (.iload_n 1, 1) := by decide +kernel
theorem dX5_join_16 : decode cX5_join 16 = .ok (.iadd, 1) := by decide +kernel
theorem dX5_join_17 : decode cX5_join 17 = .ok (.ireturn, 1) := by decide +kernel
theorem dX5_fits_0 : decode cX5_fits 0 = .ok (.iload_n 0, 1) := by decide +kernel
theorem dX5_fits_1 : decode cX5_fits 1 = .ok (.bipush 6, 2) := by decide +kernel
theorem dX5_fits_3 : decode cX5_fits 3 = .ok (.if_icmp .ne 5, 3) := by decide +kernel
theorem dX5_fits_6 : decode cX5_fits 6 = .ok (.iconst 1, 1) := by decide +kernel
theorem dX5_fits_7 : decode cX5_fits 7 = .ok (.ireturn, 1) := by decide +kernel
theorem dX5_fits_8 : decode cX5_fits 8 = .ok (.iload_n 1, 1) := by decide +kernel
theorem dX5_fits_9 : decode cX5_fits 9 = .ok (.iload_n 0, 1) := by decide +kernel
theorem dX5_fits_10 : decode cX5_fits 10 = .ok (.bipush 7, 2) := by decide +kernel
theorem dX5_fits_12 : decode cX5_fits 12 = .ok (.if_icmp .ne 7, 3) := by decide +kernel
theorem dX5_fits_15 : decode cX5_fits 15 = .ok (.iconst 0, 1) := by decide +kernel
theorem dX5_fits_16 : decode cX5_fits 16 = .ok (.goto 4, 3) := by decide +kernel
theorem dX5_fits_19 : decode cX5_fits 19 = .ok (.iload_n 0, 1) := by decide +kernel
theorem dX5_fits_20 : decode cX5_fits 20 = .ok (.if_icmp .ne 7, 3) := by decide +kernel
theorem dX5_fits_23 : decode cX5_fits 23 = .ok (.iconst 1, 1) := by decide +kernel
theorem dX5_fits_24 : decode cX5_fits 24 = .ok (.goto 4, 3) := by decide +kernel
theorem dX5_fits_27 : decode cX5_fits 27 = .ok (.iconst 0, 1) := by decide +kernel
theorem dX5_fits_28 : decode cX5_fits 28 = .ok (.ireturn, 1) := by decide +kernel
theorem dX6_init_0 : decode cX6_init 0 = .ok (.aload_n 0, 1) := by decide +kernel
theorem dX6_init_1 : decode cX6_init 1 = .ok (.invokespecial 1, 3) := by decide +kernel
theorem dX6_init_4 : decode cX6_init 4 = .ok (.aload_n 0, 1) := by decide +kernel
theorem dX6_init_5 : decode cX6_init 5 = .ok (.new 7, 3) := by decide +kernel
theorem dX6_init_8 : decode cX6_init 8 = .ok (.dup, 1) := by decide +kernel
theorem dX6_init_9 : decode cX6_init 9 = .ok (.invokespecial 9, 3) := by decide +kernel
theorem dX6_init_12 : decode cX6_init 12 = .ok (.putfield 10, 3) := by decide +kernel
theorem dX6_init_15 : decode cX6_init 15 = .ok (.aload_n 0, 1) := by decide +kernel
theorem dX6_init_16 : decode cX6_init 16 = .ok (.new 16, 3) := by decide +kernel
theorem dX6_init_19 : decode cX6_init 19 = .ok (.dup, 1) := by decide +kernel
theorem dX6_init_20 : decode cX6_init 20 = .ok (.invokespecial 18, 3) := by decide +kernel
theorem dX6_init_23 : decode cX6_init 23 = .ok (.putfield 19, 3) := by decide +kernel
theorem dX6_init_26 : decode cX6_init 26 = .ok (.aload_n 0, 1) := by decide +kernel
theorem dX6_init_27 : decode cX6_init 27 = .ok (.new 23, 3) := by decide +kernel
theorem dX6_init_30 : decode cX6_init 30 = .ok (.dup, 1) := by decide +kernel
theorem dX6_init_31 : decode cX6_init 31 = .ok (.aload_n 0, 1) := by decide +kernel
theorem dX6_init_32 : decode cX6_init 32 = .ok (.getfield 19, 3) := by decide +kernel
theorem dX6_init_35 : decode cX6_init 35 = .ok (.invokespecial 25, 3) := by decide +kernel
theorem dX6_init_38 : decode cX6_init 38 = .ok (.putfield 28, 3) := by decide +kernel
theorem dX6_init_41 : decode cX6_init 41 = .ok (.aload_n 0, 1) := by decide +kernel
theorem dX6_init_42 : decode cX6_init 42 = .ok (.new 23, 3) := by decide +kernel
theorem dX6_init_45 : decode cX6_init 45 = .ok (.dup, 1) := by decide +kernel
theorem dX6_init_46 : decode cX6_init 46 = .ok (.aload_n 0, 1) := by decide +kernel
theorem dX6_init_47 : decode cX6_init 47 = .ok (.getfield 19, 3) := by decide +kernel
theorem dX6_init_50 : decode cX6_init 50 = .ok (.invokespecial 25, 3) := by decide +kernel
theorem dX6_init_53 : decode cX6_init 53 = .ok (.putfield 32, 3) := by decide +kernel
theorem dX6_init_56 : decode cX6_init 56 = .ok (.aload_n 0, 1) := by decide +kernel
theorem dX6_init_57 : decode cX6_init 57 = .ok (.iconst 2, 1) := by decide +kernel
theorem dX6_init_58 : decode cX6_init 58 = .ok (.anewarray 23, 3) := by decide +kernel
theorem dX6_init_61 : decode cX6_init 61 = .ok (.putfield 35, 3) := by decide +kernel
theorem dX6_init_64 : decode cX6_init 64 = .ok (.iconst 0, 1) := by decide +kernel
theorem dX6_init_65 : decode cX6_init 65 = .ok (.istore_n 1, 1) := by decide +kernel
theorem dX6_init_66 : decode cX6_init 66 = .ok (.iload_n 1, 1) := by decide +kernel
theorem dX6_init_67 : decode cX6_init 67 = .ok (.iconst 2, 1) := by decide +kernel
theorem dX6_init_68 : decode cX6_init 68 = .ok (.if_icmp .ge 26, 3) := by decide +kernel
theorem dX6_init_71 : decode cX6_init 71 = .ok (.aload_n 0, 1) := by decide +kernel
theorem dX6_init_72 : decode cX6_init 72 = .ok (.getfield 35, 3) := by decide +kernel
theorem dX6_init_75 : decode cX6_init 75 = .ok (.iload_n 1, 1) := by decide +kernel
theorem dX6_init_76 : decode cX6_init 76 = .ok (.new 23, 3) := by decide +kernel
theorem dX6_init_79 : decode cX6_init 79 = .ok (.dup, 1) := by decide +kernel
theorem dX6_init_80 : decode cX6_init 80 = .ok (.aload_n 0, 1) := by decide +kernel
theorem dX6_init_81 : decode cX6_init 81 = .ok (.getfield 19, 3) := by decide +kernel
theorem dX6_init_84 : decode cX6_init 84 = .ok (.invokespecial 25, 3) := by decide +kernel
theorem dX6_init_87 : decode cX6_init 87 = .ok (.aastore, 1) := by decide +kernel
theorem dX6_init_88 : decode cX6_init 88 = .ok (.iinc 1 1, 3) := by decide +kernel
theorem dX6_init_91 : decode cX6_init 91 = .ok (.goto (-25), 3) := by decide +kernel
theorem dX6_init_94 : decode cX6_init 94 = .ok (.aload_n 0, 1) := by decide +kernel
theorem dX6_init_95 : decode cX6_init 95 = .ok (.iconst 2, 1) := by decide +kernel
theorem dX6_init_96 : decode cX6_init 96 = .ok (.newarray .boolean, 2) := by decide +kernel
theorem dX6_init_98 : decode cX6_init 98 = .ok (.putfield 39, 3) := by decide +kernel
theorem dX6_init_101 : decode cX6_init 101 = .ok (.aload_n 0, 1) := by decide +kernel
theorem dX6_init_102 : decode cX6_init 102 = .ok (.new 43, 3) := by decide +kernel
theorem dX6_init_105 : decode cX6_init 105 = .ok (.dup, 1) := by decide +kernel
theorem dX6_init_106 : decode cX6_init 106 = .ok (.invokespecial 45, 3) := by decide +kernel
theorem dX6_init_109 : decode cX6_init 109 = .ok (.putfield 46, 3) := by decide +kernel
theorem dX6_init_112 : decode cX6_init 112 = .ok (.aload_n 0, 1) := by decide +kernel
theorem dX6_init_113 : decode cX6_init 113 = .ok (.new 50, 3) := by decide +kernel
theorem dX6_init_116 : decode cX6_init 116 = .ok (.dup, 1) := by decide +kernel
theorem dX6_init_117 : decode cX6_init 117 = .ok (.invokespecial 52, 3) := by decide +kernel
theorem dX6_init_120 : decode cX6_init 120 = .ok (.putfield 53, 3) := by decide +kernel
theorem dX6_init_123 : decode cX6_init 123 = .ok (.aload_n 0, 1) := by decide +kernel
theorem dX6_init_124 : decode cX6_init 124 = .ok (.lconst 0, 1) := by decide +kernel
theorem dX6_init_125 : decode cX6_init 125 = .ok (.putfield 57, 3) := by decide +kernel
theorem dX6_init_128 : decode cX6_init 128 = .ok (.return_, 1) := by decide +kernel
theorem dX6_write_0 : decode cX6_write 0 = .ok (.iload_n 1, 1) := by decide +kernel
theorem dX6_write_1 : decode cX6_write 1 = .ok (.ifCond .lt 10, 3) := by decide +kernel
theorem dX6_write_4 : decode cX6_write 4 = .ok (.iload_n 1, 1) := by decide +kernel
theorem dX6_write_5 : decode cX6_write 5 = .ok (.sipush 255, 3) := by decide +kernel
theorem dX6_write_8 : decode cX6_write 8 = .ok (.if_icmp .le 6, 3) := by decide +kernel
theorem dX6_write_11 : decode cX6_write 11 = .ok (.bipush (-2), 2) := by decide +kernel
theorem dX6_write_13 : decode cX6_write 13 = .ok (.ireturn, 1) := by decide +kernel
theorem dX6_write_14 : decode cX6_write 14 = .ok (.aload_n 0, 1) := by decide +kernel
theorem dX6_write_15 : decode cX6_write 15 = .ok (.getfield 10, 3) := by decide +kernel
theorem dX6_write_18 : decode cX6_write 18 = .ok (.iload_n 1, 1) := by decide +kernel
theorem dX6_write_19 : decode cX6_write 19 = .ok (.invokevirtual 61, 3) := by decide +kernel
theorem dX6_write_22 : decode cX6_write 22 = .ok (.ifCond .eq 13, 3) := by decide +kernel
theorem dX6_write_25 : decode cX6_write 25 = .ok (.aload_n 0, 1) := by decide +kernel
theorem dX6_write_26 : decode cX6_write 26 = .ok (.getfield 10, 3) := by decide +kernel
theorem dX6_write_29 : decode cX6_write 29 = .ok (.getfield 65, 3) := by decide +kernel
theorem dX6_write_32 : decode cX6_write 32 = .ok (.goto 5, 3) := by decide +kernel
theorem dX6_write_35 : decode cX6_write 35 = .ok (.bipush (-4), 2) := by decide +kernel
theorem dX6_write_37 : decode cX6_write 37 = .ok (.ireturn, 1) := by decide +kernel
theorem dX6_wipe_0 : decode cX6_wipe 0 = .ok (.aload_n 0, 1) := by decide +kernel
theorem dX6_wipe_1 : decode cX6_wipe 1 = .ok (.getfield 10, 3) := by decide +kernel
theorem dX6_wipe_4 : decode cX6_wipe 4 = .ok (.getfield 65, 3) := by decide +kernel
theorem dX6_wipe_7 : decode cX6_wipe 7 = .ok (.istore_n 1, 1) := by decide +kernel
theorem dX6_wipe_8 : decode cX6_wipe 8 = .ok (.aload_n 0, 1) := by decide +kernel
theorem dX6_wipe_9 : decode cX6_wipe 9 = .ok (.getfield 10, 3) := by decide +kernel
theorem dX6_wipe_12 : decode cX6_wipe 12 = .ok (.iconst 0, 1) := by decide +kernel
theorem dX6_wipe_13 : decode cX6_wipe 13 = .ok (.putfield 65, 3) := by decide +kernel
theorem dX6_wipe_16 : decode cX6_wipe 16 = .ok (.iload_n 1, 1) := by decide +kernel
theorem dX6_wipe_17 : decode cX6_wipe 17 = .ok (.ireturn, 1) := by decide +kernel
theorem dX6_fault_0 : decode cX6_fault 0 = .ok (.iload_n 1, 1) := by decide +kernel
theorem dX6_fault_1 : decode cX6_fault 1 = .ok (.ifCond .eq 11, 3) := by decide +kernel
theorem dX6_fault_4 : decode cX6_fault 4 = .ok (.iload_n 1, 1) := by decide +kernel
theorem dX6_fault_5 : decode cX6_fault 5 = .ok (.iconst 1, 1) := by decide +kernel
theorem dX6_fault_6 : decode cX6_fault 6 = .ok (.if_icmp .eq 6, 3) := by decide +kernel
theorem dX6_fault_9 : decode cX6_fault 9 = .ok (.bipush (-2), 2) := by decide +kernel
theorem dX6_fault_11 : decode cX6_fault 11 = .ok (.ireturn, 1) := by decide +kernel
theorem dX6_fault_12 : decode cX6_fault 12 = .ok (.aload_n 0, 1) := by decide +kernel
theorem dX6_fault_13 : decode cX6_fault 13 = .ok (.getfield 10, 3) := by decide +kernel
theorem dX6_fault_16 : decode cX6_fault 16 = .ok (.invokevirtual 69, 3) := by decide +kernel
theorem dX6_fault_19 : decode cX6_fault 19 = .ok (.iload_n 1, 1) := by decide +kernel
theorem dX6_fault_20 : decode cX6_fault 20 = .ok (.ifCond .ne 13, 3) := by decide +kernel
theorem dX6_fault_23 : decode cX6_fault 23 = .ok (.aload_n 0, 1) := by decide +kernel
theorem dX6_fault_24 : decode cX6_fault 24 = .ok (.getfield 10, 3) := by decide +kernel
theorem dX6_fault_27 : decode cX6_fault 27 = .ok (.getfield 72, 3) := by decide +kernel
theorem dX6_fault_30 : decode cX6_fault 30 = .ok (.goto 10, 3) := by decide +kernel
theorem dX6_fault_33 : decode cX6_fault 33 = .ok (.aload_n 0, 1) := by decide +kernel
theorem dX6_fault_34 : decode cX6_fault 34 = .ok (.getfield 10, 3) := by decide +kernel
theorem dX6_fault_37 : decode cX6_fault 37 = .ok (.getfield 75, 3) := by decide +kernel
theorem dX6_fault_40 : decode cX6_fault 40 = .ok (.ireturn, 1) := by decide +kernel
theorem dX6_list_0 : decode cX6_list 0 = .ok (.aload_n 0, 1) := by decide +kernel
theorem dX6_list_1 : decode cX6_list 1 = .ok (.getfield 10, 3) := by decide +kernel
theorem dX6_list_4 : decode cX6_list 4 = .ok (.invokevirtual 69, 3) := by decide +kernel
theorem dX6_list_7 : decode cX6_list 7 = .ok (.aload_n 0, 1) := by decide +kernel
theorem dX6_list_8 : decode cX6_list 8 = .ok (.getfield 10, 3) := by decide +kernel
theorem dX6_list_11 : decode cX6_list 11 = .ok (.getfield 72, 3) := by decide +kernel
theorem dX6_list_14 : decode cX6_list 14 = .ok (.bipush (-9), 2) := by decide +kernel
theorem dX6_list_16 : decode cX6_list 16 = .ok (.if_icmp .eq 6, 3) := by decide +kernel
theorem dX6_list_19 : decode cX6_list 19 = .ok (.bipush (-3), 2) := by decide +kernel
theorem dX6_list_21 : decode cX6_list 21 = .ok (.ireturn, 1) := by decide +kernel
theorem dX6_list_22 : decode cX6_list 22 = .ok (.aload_n 0, 1) := by decide +kernel
theorem dX6_list_23 : decode cX6_list 23 = .ok (.getfield 19, 3) := by decide +kernel
theorem dX6_list_26 : decode cX6_list 26 = .ok (.aload_n 0, 1) := by decide +kernel
theorem dX6_list_27 : decode cX6_list 27 = .ok (.getfield 10, 3) := by decide +kernel
theorem dX6_list_30 : decode cX6_list 30 = .ok (.invokevirtual 78, 3) := by decide +kernel
theorem dX6_list_33 : decode cX6_list 33 = .ok (.aload_n 0, 1) := by decide +kernel
theorem dX6_list_34 : decode cX6_list 34 = .ok (.getfield 28, 3) := by decide +kernel
theorem dX6_list_37 : decode cX6_list 37 = .ok (.aload_n 0, 1) := by decide +kernel
theorem dX6_list_38 : decode cX6_list 38 = .ok (.getfield 10, 3) := by decide +kernel
theorem dX6_list_41 : decode cX6_list 41 = .ok (.invokevirtual 82, 3) := by decide +kernel
theorem dX6_list_44 : decode cX6_list 44 = .ok (.aload_n 0, 1) := by decide +kernel
theorem dX6_list_45 : decode cX6_list 45 = .ok (.getfield 46, 3) := by decide +kernel
theorem dX6_list_48 : decode cX6_list 48 = .ok (.iconst 0, 1) := by decide +kernel
theorem dX6_list_49 : decode cX6_list 49 = .ok (.putfield 85, 3) := by decide +kernel
theorem dX6_list_52 : decode cX6_list 52 = .ok (.iconst 0, 1) := by decide +kernel
theorem dX6_list_53 : decode cX6_list 53 = .ok (.istore_n 1, 1) := by decide +kernel
theorem dX6_list_54 : decode cX6_list 54 = .ok (.iload_n 1, 1) := by decide +kernel
theorem dX6_list_55 : decode cX6_list 55 = .ok (.iconst 2, 1) := by decide +kernel
theorem dX6_list_56 : decode cX6_list 56 = .ok (.if_icmp .ge 16, 3) := by decide +kernel
theorem dX6_list_59 : decode cX6_list 59 = .ok (.aload_n 0, 1) := by decide +kernel
theorem dX6_list_60 : decode cX6_list 60 = .ok (.getfield 39, 3) := by decide +kernel
theorem dX6_list_63 : decode cX6_list 63 = .ok (.iload_n 1, 1) := by decide +kernel
theorem dX6_list_64 : decode cX6_list 64 = .ok (.iconst 0, 1) := by decide +kernel
theorem dX6_list_65 : decode cX6_list 65 = .ok (.bastore, 1) := by decide +kernel
theorem dX6_list_66 : decode cX6_list 66 = .ok (.iinc 1 1, 3) := by decide +kernel
theorem dX6_list_69 : decode cX6_list 69 = .ok (.goto (-15), 3) := by decide +kernel
theorem dX6_list_72 : decode cX6_list 72 = .ok (.aload_n 0, 1) := by decide +kernel
theorem dX6_list_73 : decode cX6_list 73 = .ok (.getfield 10, 3) := by decide +kernel
theorem dX6_list_76 : decode cX6_list 76 = .ok (.getfield 88, 3) := by decide +kernel
theorem dX6_list_79 : decode cX6_list 79 = .ok (.ireturn, 1) := by decide +kernel
theorem dX6_about_0 : decode cX6_about 0 = .ok (.iload_n 1, 1) := by decide +kernel
theorem dX6_about_1 : decode cX6_about 1 = .ok (.tableswitch 142 0 9 #[55, 63, 71, 79, 94, 102, 110, 118, 126, 134], 55) := by decide +kernel
theorem dX6_about_56 : decode cX6_about 56 = .ok (.aload_n 0, 1) := by decide +kernel
theorem dX6_about_57 : decode cX6_about 57 = .ok (.getfield 19, 3) := by decide +kernel
theorem dX6_about_60 : decode cX6_about 60 = .ok (.getfield 91, 3) := by decide +kernel
theorem dX6_about_63 : decode cX6_about 63 = .ok (.ireturn, 1) := by decide +kernel
theorem dX6_about_64 : decode cX6_about 64 = .ok (.aload_n 0, 1) := by decide +kernel
theorem dX6_about_65 : decode cX6_about 65 = .ok (.getfield 19, 3) := by decide +kernel
theorem dX6_about_68 : decode cX6_about 68 = .ok (.getfield 94, 3) := by decide +kernel
theorem dX6_about_71 : decode cX6_about 71 = .ok (.ireturn, 1) := by decide +kernel
theorem dX6_about_72 : decode cX6_about 72 = .ok (.aload_n 0, 1) := by decide +kernel
theorem dX6_about_73 : decode cX6_about 73 = .ok (.getfield 28, 3) := by decide +kernel
theorem dX6_about_76 : decode cX6_about 76 = .ok (.getfield 97, 3) := by decide +kernel
theorem dX6_about_79 : decode cX6_about 79 = .ok (.ireturn, 1) := by decide +kernel
theorem dX6_about_80 : decode cX6_about 80 = .ok (.aload_n 0, 1) := by decide +kernel
theorem dX6_about_81 : decode cX6_about 81 = .ok (.getfield 28, 3) := by decide +kernel
theorem dX6_about_84 : decode cX6_about 84 = .ok (.aload_n 0, 1) := by decide +kernel
theorem dX6_about_85 : decode cX6_about 85 = .ok (.getfield 28, 3) := by decide +kernel
theorem dX6_about_88 : decode cX6_about 88 = .ok (.invokevirtual 100, 3) := by decide +kernel
theorem dX6_about_91 : decode cX6_about 91 = .ok (.invokevirtual 104, 3) := by decide +kernel
theorem dX6_about_94 : decode cX6_about 94 = .ok (.ireturn, 1) := by decide +kernel
theorem dX6_about_95 : decode cX6_about 95 = .ok (.aload_n 0, 1) := by decide +kernel
theorem dX6_about_96 : decode cX6_about 96 = .ok (.getfield 28, 3) := by decide +kernel
theorem dX6_about_99 : decode cX6_about 99 = .ok (.invokevirtual 108, 3) := by decide +kernel
theorem dX6_about_102 : decode cX6_about 102 = .ok (.ireturn, 1) := by decide +kernel
theorem dX6_about_103 : decode cX6_about 103 = .ok (.aload_n 0, 1) := by decide +kernel
theorem dX6_about_104 : decode cX6_about 104 = .ok (.getfield 28, 3) := by decide +kernel
theorem dX6_about_107 : decode cX6_about 107 = .ok (.invokevirtual 111, 3) := by decide +kernel
theorem dX6_about_110 : decode cX6_about 110 = .ok (.ireturn, 1) := by decide +kernel
theorem dX6_about_111 : decode cX6_about 111 = .ok (.aload_n 0, 1) := by decide +kernel
theorem dX6_about_112 : decode cX6_about 112 = .ok (.getfield 28, 3) := by decide +kernel
theorem dX6_about_115 : decode cX6_about 115 = .ok (.invokevirtual 114, 3) := by decide +kernel
theorem dX6_about_118 : decode cX6_about 118 = .ok (.ireturn, 1) := by decide +kernel
theorem dX6_about_119 : decode cX6_about 119 = .ok (.aload_n 0, 1) := by decide +kernel
theorem dX6_about_120 : decode cX6_about 120 = .ok (.getfield 46, 3) := by decide +kernel
theorem dX6_about_123 : decode cX6_about 123 = .ok (.getfield 85, 3) := by decide +kernel
theorem dX6_about_126 : decode cX6_about 126 = .ok (.ireturn, 1) := by decide +kernel
theorem dX6_about_127 : decode cX6_about 127 = .ok (.aload_n 0, 1) := by decide +kernel
theorem dX6_about_128 : decode cX6_about 128 = .ok (.getfield 53, 3) := by decide +kernel
theorem dX6_about_131 : decode cX6_about 131 = .ok (.getfield 117, 3) := by decide +kernel
theorem dX6_about_134 : decode cX6_about 134 = .ok (.ireturn, 1) := by decide +kernel
theorem dX6_about_135 : decode cX6_about 135 = .ok (.aload_n 0, 1) := by decide +kernel
theorem dX6_about_136 : decode cX6_about 136 = .ok (.getfield 10, 3) := by decide +kernel
theorem dX6_about_139 : decode cX6_about 139 = .ok (.getfield 65, 3) := by decide +kernel
theorem dX6_about_142 : decode cX6_about 142 = .ok (.ireturn, 1) := by decide +kernel
theorem dX6_about_143 : decode cX6_about 143 = .ok (.bipush (-2), 2) := by decide +kernel
theorem dX6_about_145 : decode cX6_about 145 = .ok (.ireturn, 1) := by decide +kernel
theorem dX6_part_0 : decode cX6_part 0 = .ok (.iload_n 1, 1) := by decide +kernel
theorem dX6_part_1 : decode cX6_part 1 = .ok (.ifCond .eq 11, 3) := by decide +kernel
theorem dX6_part_4 : decode cX6_part 4 = .ok (.iload_n 1, 1) := by decide +kernel
theorem dX6_part_5 : decode cX6_part 5 = .ok (.iconst 1, 1) := by decide +kernel
theorem dX6_part_6 : decode cX6_part 6 = .ok (.if_icmp .eq 6, 3) := by decide +kernel
theorem dX6_part_9 : decode cX6_part 9 = .ok (.bipush (-2), 2) := by decide +kernel
theorem dX6_part_11 : decode cX6_part 11 = .ok (.ireturn, 1) := by decide +kernel
theorem dX6_part_12 : decode cX6_part 12 = .ok (.iload_n 1, 1) := by decide +kernel
theorem dX6_part_13 : decode cX6_part 13 = .ok (.ifCond .ne 28, 3) := by decide +kernel
theorem dX6_part_16 : decode cX6_part 16 = .ok (.aload_n 0, 1) := by decide +kernel
theorem dX6_part_17 : decode cX6_part 17 = .ok (.getfield 19, 3) := by decide +kernel
theorem dX6_part_20 : decode cX6_part 20 = .ok (.iload_n 2, 1) := by decide +kernel
theorem dX6_part_21 : decode cX6_part 21 = .ok (.invokevirtual 118, 3) := by decide +kernel
theorem dX6_part_24 : decode cX6_part 24 = .ok (.ifCond .eq 15, 3) := by decide +kernel
theorem dX6_part_27 : decode cX6_part 27 = .ok (.aload_n 0, 1) := by decide +kernel
theorem dX6_part_28 : decode cX6_part 28 = .ok (.getfield 19, 3) := by decide +kernel
theorem dX6_part_31 : decode cX6_part 31 = .ok (.getfield 121, 3) := by decide +kernel
theorem dX6_part_34 : decode cX6_part 34 = .ok (.iload_n 2, 1) := by decide +kernel
theorem dX6_part_35 : decode cX6_part 35 = .ok (.iaload, 1) := by decide +kernel
theorem dX6_part_36 : decode cX6_part 36 = .ok (.goto 4, 3) := by decide +kernel
theorem dX6_part_39 : decode cX6_part 39 = .ok (.iconst (-1), 1) := by decide +kernel
theorem dX6_part_40 : decode cX6_part 40 = .ok (.ireturn, 1) := by decide +kernel
theorem dX6_part_41 : decode cX6_part 41 = .ok (.aload_n 0, 1) := by decide +kernel
theorem dX6_part_42 : decode cX6_part 42 = .ok (.getfield 19, 3) := by decide +kernel
theorem dX6_part_45 : decode cX6_part 45 = .ok (.iload_n 2, 1) := by decide +kernel
theorem dX6_part_46 : decode cX6_part 46 = .ok (.invokevirtual 125, 3) := by decide +kernel
theorem dX6_part_49 : decode cX6_part 49 = .ok (.ifCond .eq 15, 3) := by decide +kernel
theorem dX6_part_52 : decode cX6_part 52 = .ok (.aload_n 0, 1) := by decide +kernel
theorem dX6_part_53 : decode cX6_part 53 = .ok (.getfield 19, 3) := by decide +kernel
theorem dX6_part_56 : decode cX6_part 56 = .ok (.getfield 128, 3) := by decide +kernel
theorem dX6_part_59 : decode cX6_part 59 = .ok (.iload_n 2, 1) := by decide +kernel
theorem dX6_part_60 : decode cX6_part 60 = .ok (.iaload, 1) := by decide +kernel
theorem dX6_part_61 : decode cX6_part 61 = .ok (.goto 4, 3) := by decide +kernel
theorem dX6_part_64 : decode cX6_part 64 = .ok (.iconst (-1), 1) := by decide +kernel
theorem dX6_part_65 : decode cX6_part 65 = .ok (.ireturn, 1) := by decide +kernel
theorem dX6_sign_0 : decode cX6_sign 0 = .ok (.aload_n 0, 1) := by decide +kernel
theorem dX6_sign_1 : decode cX6_sign 1 = .ok (.getfield 28, 3) := by decide +kernel
theorem dX6_sign_4 : decode cX6_sign 4 = .ok (.iload_n 1, 1) := by decide +kernel
theorem dX6_sign_5 : decode cX6_sign 5 = .ok (.invokevirtual 131, 3) := by decide +kernel
theorem dX6_sign_8 : decode cX6_sign 8 = .ok (.ifCond .ne 5, 3) := by decide +kernel
theorem dX6_sign_11 : decode cX6_sign 11 = .ok (.iconst (-1), 1) := by decide +kernel
theorem dX6_sign_12 : decode cX6_sign 12 = .ok (.ireturn, 1) := by decide +kernel
theorem dX6_sign_13 : decode cX6_sign 13 = .ok (.iload_n 2, 1) := by decide +kernel
theorem dX6_sign_14 : decode cX6_sign 14 = .ok (.invokestatic 134, 3) := by decide +kernel
theorem dX6_sign_17 : decode cX6_sign 17 = .ok (.ifCond .eq 15, 3) := by decide +kernel
theorem dX6_sign_20 : decode cX6_sign 20 = .ok (.aload_n 0, 1) := by decide +kernel
theorem dX6_sign_21 : decode cX6_sign 21 = .ok (.getfield 28, 3) := by decide +kernel
theorem dX6_sign_24 : decode cX6_sign 24 = .ok (.iload_n 1, 1) := by decide +kernel
theorem dX6_sign_25 : decode cX6_sign 25 = .ok (.iload_n 2, 1) := by decide +kernel
theorem dX6_sign_26 : decode cX6_sign 26 = .ok (.invokevirtual 137, 3) := by decide +kernel
theorem dX6_sign_29 : decode cX6_sign 29 = .ok (.goto 5, 3) := by decide +kernel
theorem dX6_sign_32 : decode cX6_sign 32 = .ok (.bipush (-2), 2) := by decide +kernel
theorem dX6_sign_34 : decode cX6_sign 34 = .ok (.ireturn, 1) := by decide +kernel
theorem dX6_order_0 : decode cX6_order 0 = .ok (.aload_n 0, 1) := by decide +kernel
theorem dX6_order_1 : decode cX6_order 1 = .ok (.getfield 28, 3) := by decide +kernel
theorem dX6_order_4 : decode cX6_order 4 = .ok (.iload_n 1, 1) := by decide +kernel
theorem dX6_order_5 : decode cX6_order 5 = .ok (.invokevirtual 131, 3) := by decide +kernel
theorem dX6_order_8 : decode cX6_order 8 = .ok (.ifCond .eq 15, 3) := by decide +kernel
theorem dX6_order_11 : decode cX6_order 11 = .ok (.aload_n 0, 1) := by decide +kernel
theorem dX6_order_12 : decode cX6_order 12 = .ok (.getfield 28, 3) := by decide +kernel
theorem dX6_order_15 : decode cX6_order 15 = .ok (.getfield 141, 3) := by decide +kernel
theorem dX6_order_18 : decode cX6_order 18 = .ok (.iload_n 1, 1) := by decide +kernel
theorem dX6_order_19 : decode cX6_order 19 = .ok (.iaload, 1) := by decide +kernel
theorem dX6_order_20 : decode cX6_order 20 = .ok (.goto 4, 3) := by decide +kernel
theorem dX6_order_23 : decode cX6_order 23 = .ok (.iconst (-1), 1) := by decide +kernel
theorem dX6_order_24 : decode cX6_order 24 = .ok (.ireturn, 1) := by decide +kernel
theorem dX6_made_0 : decode cX6_made 0 = .ok (.aload_n 0, 1) := by decide +kernel
theorem dX6_made_1 : decode cX6_made 1 = .ok (.getfield 19, 3) := by decide +kernel
theorem dX6_made_4 : decode cX6_made 4 = .ok (.iload_n 1, 1) := by decide +kernel
theorem dX6_made_5 : decode cX6_made 5 = .ok (.iload_n 2, 1) := by decide +kernel
theorem dX6_made_6 : decode cX6_made 6 = .ok (.invokevirtual 144, 3) := by decide +kernel
theorem dX6_made_9 : decode cX6_made 9 = .ok (.ifCond .eq 15, 3) := by decide +kernel
theorem dX6_made_12 : decode cX6_made 12 = .ok (.aload_n 0, 1) := by decide +kernel
theorem dX6_made_13 : decode cX6_made 13 = .ok (.getfield 28, 3) := by decide +kernel
theorem dX6_made_16 : decode cX6_made 16 = .ok (.iload_n 1, 1) := by decide +kernel
theorem dX6_made_17 : decode cX6_made 17 = .ok (.iload_n 2, 1) := by decide +kernel
theorem dX6_made_18 : decode cX6_made 18 = .ok (.invokevirtual 148, 3) := by decide +kernel
theorem dX6_made_21 : decode cX6_made 21 = .ok (.goto 4, 3) := by decide +kernel
theorem dX6_made_24 : decode cX6_made 24 = .ok (.iconst (-1), 1) := by decide +kernel
theorem dX6_made_25 : decode cX6_made 25 = .ok (.ireturn, 1) := by decide +kernel
theorem dX6_step_0 : decode cX6_step 0 = .ok (.aload_n 0, 1) := by decide +kernel
theorem dX6_step_1 : decode cX6_step 1 = .ok (.getfield 19, 3) := by decide +kernel
theorem dX6_step_4 : decode cX6_step 4 = .ok (.iload_n 1, 1) := by decide +kernel
theorem dX6_step_5 : decode cX6_step 5 = .ok (.iload_n 2, 1) := by decide +kernel
theorem dX6_step_6 : decode cX6_step 6 = .ok (.invokevirtual 144, 3) := by decide +kernel
theorem dX6_step_9 : decode cX6_step 9 = .ok (.ifCond .ne 5, 3) := by decide +kernel
theorem dX6_step_12 : decode cX6_step 12 = .ok (.iconst (-1), 1) := by decide +kernel
theorem dX6_step_13 : decode cX6_step 13 = .ok (.ireturn, 1) := by decide +kernel
theorem dX6_step_14 : decode cX6_step 14 = .ok (.iload_n 3, 1) := by decide +kernel
theorem dX6_step_15 : decode cX6_step 15 = .ok (.ifCond .lt 14, 3) := by decide +kernel
theorem dX6_step_18 : decode cX6_step 18 = .ok (.iload_n 3, 1) := by decide +kernel
theorem dX6_step_19 : decode cX6_step 19 = .ok (.aload_n 0, 1) := by decide +kernel
theorem dX6_step_20 : decode cX6_step 20 = .ok (.getfield 28, 3) := by decide +kernel
theorem dX6_step_23 : decode cX6_step 23 = .ok (.getfield 97, 3) := by decide +kernel
theorem dX6_step_26 : decode cX6_step 26 = .ok (.if_icmp .le 6, 3) := by decide +kernel
theorem dX6_step_29 : decode cX6_step 29 = .ok (.bipush (-2), 2) := by decide +kernel
theorem dX6_step_31 : decode cX6_step 31 = .ok (.ireturn, 1) := by decide +kernel
theorem dX6_step_32 : decode cX6_step 32 = .ok (.aload_n 0, 1) := by decide +kernel
theorem dX6_step_33 : decode cX6_step 33 = .ok (.getfield 28, 3) := by decide +kernel
theorem dX6_step_36 : decode cX6_step 36 = .ok (.aload_n 0, 1) := by decide +kernel
theorem dX6_step_37 : decode cX6_step 37 = .ok (.getfield 19, 3) := by decide +kernel
theorem dX6_step_40 : decode cX6_step 40 = .ok (.iload_n 1, 1) := by decide +kernel
theorem dX6_step_41 : decode cX6_step 41 = .ok (.iload_n 2, 1) := by decide +kernel
theorem dX6_step_42 : decode cX6_step 42 = .ok (.invokevirtual 151, 3) := by decide +kernel
theorem dX6_step_45 : decode cX6_step 45 = .ok (.iload_n 3, 1) := by decide +kernel
theorem dX6_step_46 : decode cX6_step 46 = .ok (.invokevirtual 154, 3) := by decide +kernel
theorem dX6_step_49 : decode cX6_step 49 = .ok (.ireturn, 1) := by decide +kernel
theorem dX6_apart_0 : decode cX6_apart 0 = .ok (.iload_n 1, 1) := by decide +kernel
theorem dX6_apart_1 : decode cX6_apart 1 = .ok (.invokestatic 157, 3) := by decide +kernel
theorem dX6_apart_4 : decode cX6_apart 4 = .ok (.ifCond .eq 12, 3) := by decide +kernel
theorem dX6_apart_7 : decode cX6_apart 7 = .ok (.iload_n 2, 1) := by decide +kernel
theorem dX6_apart_8 : decode cX6_apart 8 = .ok (.ifCond .eq 11, 3) := by decide +kernel
theorem dX6_apart_11 : decode cX6_apart 11 = .ok (.iload_n 2, 1) := by decide +kernel
theorem dX6_apart_12 : decode cX6_apart 12 = .ok (.iconst 1, 1) := by decide +kernel
theorem dX6_apart_13 : decode cX6_apart 13 = .ok (.if_icmp .eq 6, 3) := by decide +kernel
theorem dX6_apart_16 : decode cX6_apart 16 = .ok (.bipush (-2), 2) := by decide +kernel
theorem dX6_apart_18 : decode cX6_apart 18 = .ok (.ireturn, 1) := by decide +kernel
theorem dX6_apart_19 : decode cX6_apart 19 = .ok (.iconst 0, 1) := by decide +kernel
theorem dX6_apart_20 : decode cX6_apart 20 = .ok (.istore_n 3, 1) := by decide +kernel
theorem dX6_apart_21 : decode cX6_apart 21 = .ok (.bipush (-9), 2) := by decide +kernel
theorem dX6_apart_23 : decode cX6_apart 23 = .ok (.istore 4, 2) := by decide +kernel
theorem dX6_apart_25 : decode cX6_apart 25 = .ok (.iconst 0, 1) := by decide +kernel
theorem dX6_apart_26 : decode cX6_apart 26 = .ok (.istore 5, 2) := by decide +kernel
theorem dX6_apart_28 : decode cX6_apart 28 = .ok (.iload 5, 2) := by decide +kernel
theorem dX6_apart_30 : decode cX6_apart 30 = .ok (.aload_n 0, 1) := by decide +kernel
theorem dX6_apart_31 : decode cX6_apart 31 = .ok (.getfield 19, 3) := by decide +kernel
theorem dX6_apart_34 : decode cX6_apart 34 = .ok (.getfield 91, 3) := by decide +kernel
theorem dX6_apart_37 : decode cX6_apart 37 = .ok (.if_icmp .ge 67, 3) := by decide +kernel
theorem dX6_apart_40 : decode cX6_apart 40 = .ok (.iconst 0, 1) := by decide +kernel
theorem dX6_apart_41 : decode cX6_apart 41 = .ok (.istore 6, 2) := by decide +kernel
theorem dX6_apart_43 : decode cX6_apart 43 = .ok (.iload 6, 2) := by decide +kernel
theorem dX6_apart_45 : decode cX6_apart 45 = .ok (.aload_n 0, 1) := by decide +kernel
theorem dX6_apart_46 : decode cX6_apart 46 = .ok (.getfield 19, 3) := by decide +kernel
theorem dX6_apart_49 : decode cX6_apart 49 = .ok (.getfield 94, 3) := by decide +kernel
theorem dX6_apart_52 : decode cX6_apart 52 = .ok (.if_icmp .ge 46, 3) := by decide +kernel
theorem dX6_apart_55 : decode cX6_apart 55 = .ok (.aload_n 0, 1) := by decide +kernel
theorem dX6_apart_56 : decode cX6_apart 56 = .ok (.getfield 28, 3) := by decide +kernel
theorem dX6_apart_59 : decode cX6_apart 59 = .ok (.iload 5, 2) := by decide +kernel
theorem dX6_apart_61 : decode cX6_apart 61 = .ok (.iload 6, 2) := by decide +kernel
theorem dX6_apart_63 : decode cX6_apart 63 = .ok (.invokevirtual 148, 3) := by decide +kernel
theorem dX6_apart_66 : decode cX6_apart 66 = .ok (.iload_n 1, 1) := by decide +kernel
theorem dX6_apart_67 : decode cX6_apart 67 = .ok (.if_icmp .ne 25, 3) := by decide +kernel
theorem dX6_apart_70 : decode cX6_apart 70 = .ok (.iload_n 3, 1) := by decide +kernel
theorem dX6_apart_71 : decode cX6_apart 71 = .ok (.ifCond .ne 14, 3) := by decide +kernel
theorem dX6_apart_74 : decode cX6_apart 74 = .ok (.bipush 10, 2) := by decide +kernel
theorem dX6_apart_76 : decode cX6_apart 76 = .ok (.iload 5, 2) := by decide +kernel
theorem dX6_apart_78 : decode cX6_apart 78 = .ok (.imul, 1) := by decide +kernel
theorem dX6_apart_79 : decode cX6_apart 79 = .ok (.iload 6, 2) := by decide +kernel
theorem dX6_apart_81 : decode cX6_apart 81 = .ok (.iadd, 1) := by decide +kernel
theorem dX6_apart_82 : decode cX6_apart 82 = .ok (.goto 5, 3) := by decide +kernel
theorem dX6_apart_85 : decode cX6_apart 85 = .ok (.iload 4, 2) := by decide +kernel
theorem dX6_apart_87 : decode cX6_apart 87 = .ok (.istore 4, 2) := by decide +kernel
theorem dX6_apart_89 : decode cX6_apart 89 = .ok (.iinc 3 1, 3) := by decide +kernel
theorem dX6_apart_92 : decode cX6_apart 92 = .ok (.iinc 6 1, 3) := by decide +kernel
theorem dX6_apart_95 : decode cX6_apart 95 = .ok (.goto (-52), 3) := by decide +kernel
theorem dX6_apart_98 : decode cX6_apart 98 = .ok (.iinc 5 1, 3) := by decide +kernel
theorem dX6_apart_101 : decode cX6_apart 101 = .ok (.goto (-73), 3) := by decide +kernel
theorem dX6_apart_104 : decode cX6_apart 104 = .ok (.iload_n 2, 1) := by decide +kernel
theorem dX6_apart_105 : decode cX6_apart 105 = .ok (.ifCond .ne 7, 3) := by decide +kernel
theorem dX6_apart_108 : decode cX6_apart 108 = .ok (.iload_n 3, 1) := by decide +kernel
theorem dX6_apart_109 : decode cX6_apart 109 = .ok (.goto 5, 3) := by decide +kernel
theorem dX6_apart_112 : decode cX6_apart 112 = .ok (.iload 4, 2) := by decide +kernel
theorem dX6_apart_114 : decode cX6_apart 114 = .ok (.ireturn, 1) := by decide +kernel
theorem dX6_form_0 : decode cX6_form 0 = .ok (.aload_n 0, 1) := by decide +kernel
theorem dX6_form_1 : decode cX6_form 1 = .ok (.getfield 19, 3) := by decide +kernel
theorem dX6_form_4 : decode cX6_form 4 = .ok (.iload_n 1, 1) := by decide +kernel
theorem dX6_form_5 : decode cX6_form 5 = .ok (.iload_n 2, 1) := by decide +kernel
theorem dX6_form_6 : decode cX6_form 6 = .ok (.invokevirtual 144, 3) := by decide +kernel
theorem dX6_form_9 : decode cX6_form 9 = .ok (.ifCond .eq 15, 3) := by decide +kernel
theorem dX6_form_12 : decode cX6_form 12 = .ok (.aload_n 0, 1) := by decide +kernel
theorem dX6_form_13 : decode cX6_form 13 = .ok (.getfield 28, 3) := by decide +kernel
theorem dX6_form_16 : decode cX6_form 16 = .ok (.iload_n 1, 1) := by decide +kernel
theorem dX6_form_17 : decode cX6_form 17 = .ok (.iload_n 2, 1) := by decide +kernel
theorem dX6_form_18 : decode cX6_form 18 = .ok (.invokevirtual 162, 3) := by decide +kernel
theorem dX6_form_21 : decode cX6_form 21 = .ok (.goto 4, 3) := by decide +kernel
theorem dX6_form_24 : decode cX6_form 24 = .ok (.iconst (-1), 1) := by decide +kernel
theorem dX6_form_25 : decode cX6_form 25 = .ok (.ireturn, 1) := by decide +kernel
theorem dX6_swap_0 : decode cX6_swap 0 = .ok (.aload_n 0, 1) := by decide +kernel
theorem dX6_swap_1 : decode cX6_swap 1 = .ok (.getfield 28, 3) := by decide +kernel
theorem dX6_swap_4 : decode cX6_swap 4 = .ok (.iload_n 1, 1) := by decide +kernel
theorem dX6_swap_5 : decode cX6_swap 5 = .ok (.invokevirtual 131, 3) := by decide +kernel
theorem dX6_swap_8 : decode cX6_swap 8 = .ok (.ifCond .eq 14, 3) := by decide +kernel
theorem dX6_swap_11 : decode cX6_swap 11 = .ok (.aload_n 0, 1) := by decide +kernel
theorem dX6_swap_12 : decode cX6_swap 12 = .ok (.getfield 28, 3) := by decide +kernel
theorem dX6_swap_15 : decode cX6_swap 15 = .ok (.iload_n 2, 1) := by decide +kernel
theorem dX6_swap_16 : decode cX6_swap 16 = .ok (.invokevirtual 131, 3) := by decide +kernel
theorem dX6_swap_19 : decode cX6_swap 19 = .ok (.ifCond .ne 5, 3) := by decide +kernel
theorem dX6_swap_22 : decode cX6_swap 22 = .ok (.iconst (-1), 1) := by decide +kernel
theorem dX6_swap_23 : decode cX6_swap 23 = .ok (.ireturn, 1) := by decide +kernel
theorem dX6_swap_24 : decode cX6_swap 24 = .ok (.aload_n 0, 1) := by decide +kernel
theorem dX6_swap_25 : decode cX6_swap 25 = .ok (.getfield 28, 3) := by decide +kernel
theorem dX6_swap_28 : decode cX6_swap 28 = .ok (.iload_n 1, 1) := by decide +kernel
theorem dX6_swap_29 : decode cX6_swap 29 = .ok (.iload_n 2, 1) := by decide +kernel
theorem dX6_swap_30 : decode cX6_swap 30 = .ok (.invokevirtual 165, 3) := by decide +kernel
theorem dX6_swap_33 : decode cX6_swap 33 = .ok (.aload_n 0, 1) := by decide +kernel
theorem dX6_swap_34 : decode cX6_swap 34 = .ok (.getfield 46, 3) := by decide +kernel
theorem dX6_swap_37 : decode cX6_swap 37 = .ok (.iconst 1, 1) := by decide +kernel
theorem dX6_swap_38 : decode cX6_swap 38 = .ok (.iload_n 1, 1) := by decide +kernel
theorem dX6_swap_39 : decode cX6_swap 39 = .ok (.iload_n 2, 1) := by decide +kernel
theorem dX6_swap_40 : decode cX6_swap 40 = .ok (.iconst 0, 1) := by decide +kernel
theorem dX6_swap_41 : decode cX6_swap 41 = .ok (.invokevirtual 169, 3) := by decide +kernel
theorem dX6_swap_44 : decode cX6_swap 44 = .ok (.aload_n 0, 1) := by decide +kernel
theorem dX6_swap_45 : decode cX6_swap 45 = .ok (.getfield 28, 3) := by decide +kernel
theorem dX6_swap_48 : decode cX6_swap 48 = .ok (.aload_n 0, 1) := by decide +kernel
theorem dX6_swap_49 : decode cX6_swap 49 = .ok (.getfield 28, 3) := by decide +kernel
theorem dX6_swap_52 : decode cX6_swap 52 = .ok (.invokevirtual 100, 3) := by decide +kernel
theorem dX6_swap_55 : decode cX6_swap 55 = .ok (.invokevirtual 104, 3) := by decide +kernel
theorem dX6_swap_58 : decode cX6_swap 58 = .ok (.ireturn, 1) := by decide +kernel
theorem dX6_resign_0 : decode cX6_resign 0 = .ok (.aload_n 0, 1) := by decide +kernel
theorem dX6_resign_1 : decode cX6_resign 1 = .ok (.getfield 28, 3) := by decide +kernel
theorem dX6_resign_4 : decode cX6_resign 4 = .ok (.iload_n 1, 1) := by decide +kernel
theorem dX6_resign_5 : decode cX6_resign 5 = .ok (.invokevirtual 131, 3) := by decide +kernel
theorem dX6_resign_8 : decode cX6_resign 8 = .ok (.ifCond .ne 5, 3) := by decide +kernel
theorem dX6_resign_11 : decode cX6_resign 11 = .ok (.iconst (-1), 1) := by decide +kernel
theorem dX6_resign_12 : decode cX6_resign 12 = .ok (.ireturn, 1) := by decide +kernel
theorem dX6_resign_13 : decode cX6_resign 13 = .ok (.iload_n 2, 1) := by decide +kernel
theorem dX6_resign_14 : decode cX6_resign 14 = .ok (.iload_n 3, 1) := by decide +kernel
theorem dX6_resign_15 : decode cX6_resign 15 = .ok (.invokestatic 173, 3) := by decide +kernel
theorem dX6_resign_18 : decode cX6_resign 18 = .ok (.ifCond .ne 6, 3) := by decide +kernel
theorem dX6_resign_21 : decode cX6_resign 21 = .ok (.bipush (-2), 2) := by decide +kernel
theorem dX6_resign_23 : decode cX6_resign 23 = .ok (.ireturn, 1) := by decide +kernel
theorem dX6_resign_24 : decode cX6_resign 24 = .ok (.aload_n 0, 1) := by decide +kernel
theorem dX6_resign_25 : decode cX6_resign 25 = .ok (.getfield 28, 3) := by decide +kernel
theorem dX6_resign_28 : decode cX6_resign 28 = .ok (.iload_n 1, 1) := by decide +kernel
theorem dX6_resign_29 : decode cX6_resign 29 = .ok (.iload_n 2, 1) := by decide +kernel
theorem dX6_resign_30 : decode cX6_resign 30 = .ok (.invokevirtual 137, 3) := by decide +kernel
theorem dX6_resign_33 : decode cX6_resign 33 = .ok (.istore 4, 2) := by decide +kernel
theorem dX6_resign_35 : decode cX6_resign 35 = .ok (.aload_n 0, 1) := by decide +kernel
theorem dX6_resign_36 : decode cX6_resign 36 = .ok (.getfield 28, 3) := by decide +kernel
theorem dX6_resign_39 : decode cX6_resign 39 = .ok (.iload_n 1, 1) := by decide +kernel
theorem dX6_resign_40 : decode cX6_resign 40 = .ok (.iload_n 2, 1) := by decide +kernel
theorem dX6_resign_41 : decode cX6_resign 41 = .ok (.iload_n 3, 1) := by decide +kernel
theorem dX6_resign_42 : decode cX6_resign 42 = .ok (.invokevirtual 176, 3) := by decide +kernel
theorem dX6_resign_45 : decode cX6_resign 45 = .ok (.aload_n 0, 1) := by decide +kernel
theorem dX6_resign_46 : decode cX6_resign 46 = .ok (.getfield 46, 3) := by decide +kernel
theorem dX6_resign_49 : decode cX6_resign 49 = .ok (.iconst 2, 1) := by decide +kernel
theorem dX6_resign_50 : decode cX6_resign 50 = .ok (.iload_n 1, 1) := by decide +kernel
theorem dX6_resign_51 : decode cX6_resign 51 = .ok (.iload_n 2, 1) := by decide +kernel
theorem dX6_resign_52 : decode cX6_resign 52 = .ok (.iload 4, 2) := by decide +kernel
theorem dX6_resign_54 : decode cX6_resign 54 = .ok (.invokevirtual 169, 3) := by decide +kernel
theorem dX6_resign_57 : decode cX6_resign 57 = .ok (.iload 4, 2) := by decide +kernel
theorem dX6_resign_59 : decode cX6_resign 59 = .ok (.ireturn, 1) := by decide +kernel
theorem dX6_tell_0 : decode cX6_tell 0 = .ok (.aload_n 0, 1) := by decide +kernel
theorem dX6_tell_1 : decode cX6_tell 1 = .ok (.getfield 19, 3) := by decide +kernel
theorem dX6_tell_4 : decode cX6_tell 4 = .ok (.iload_n 1, 1) := by decide +kernel
theorem dX6_tell_5 : decode cX6_tell 5 = .ok (.iload_n 2, 1) := by decide +kernel
theorem dX6_tell_6 : decode cX6_tell 6 = .ok (.invokevirtual 144, 3) := by decide +kernel
theorem dX6_tell_9 : decode cX6_tell 9 = .ok (.ifCond .ne 5, 3) := by decide +kernel
theorem dX6_tell_12 : decode cX6_tell 12 = .ok (.iconst (-1), 1) := by decide +kernel
theorem dX6_tell_13 : decode cX6_tell 13 = .ok (.ireturn, 1) := by decide +kernel
theorem dX6_tell_14 : decode cX6_tell 14 = .ok (.iload_n 3, 1) := by decide +kernel
theorem dX6_tell_15 : decode cX6_tell 15 = .ok (.bipush (-9), 2) := by decide +kernel
theorem dX6_tell_17 : decode cX6_tell 17 = .ok (.if_icmp .eq 13, 3) := by decide +kernel
theorem dX6_tell_20 : decode cX6_tell 20 = .ok (.iload_n 3, 1) := by decide +kernel
theorem dX6_tell_21 : decode cX6_tell 21 = .ok (.invokestatic 157, 3) := by decide +kernel
theorem dX6_tell_24 : decode cX6_tell 24 = .ok (.ifCond .ne 6, 3) := by decide +kernel
theorem dX6_tell_27 : decode cX6_tell 27 = .ok (.bipush (-2), 2) := by decide +kernel
theorem dX6_tell_29 : decode cX6_tell 29 = .ok (.ireturn, 1) := by decide +kernel
theorem dX6_tell_30 : decode cX6_tell 30 = .ok (.aload_n 0, 1) := by decide +kernel
theorem dX6_tell_31 : decode cX6_tell 31 = .ok (.getfield 28, 3) := by decide +kernel
theorem dX6_tell_34 : decode cX6_tell 34 = .ok (.iload_n 1, 1) := by decide +kernel
theorem dX6_tell_35 : decode cX6_tell 35 = .ok (.iload_n 2, 1) := by decide +kernel
theorem dX6_tell_36 : decode cX6_tell 36 = .ok (.invokevirtual 162, 3) := by decide +kernel
theorem dX6_tell_39 : decode cX6_tell 39 = .ok (.istore 4, 2) := by decide +kernel
theorem dX6_tell_41 : decode cX6_tell 41 = .ok (.aload_n 0, 1) := by decide +kernel
theorem dX6_tell_42 : decode cX6_tell 42 = .ok (.getfield 28, 3) := by decide +kernel
theorem dX6_tell_45 : decode cX6_tell 45 = .ok (.iload_n 1, 1) := by decide +kernel
theorem dX6_tell_46 : decode cX6_tell 46 = .ok (.iload_n 2, 1) := by decide +kernel
theorem dX6_tell_47 : decode cX6_tell 47 = .ok (.iload_n 3, 1) := by decide +kernel
theorem dX6_tell_48 : decode cX6_tell 48 = .ok (.invokevirtual 180, 3) := by decide +kernel
theorem dX6_tell_51 : decode cX6_tell 51 = .ok (.aload_n 0, 1) := by decide +kernel
theorem dX6_tell_52 : decode cX6_tell 52 = .ok (.getfield 46, 3) := by decide +kernel
theorem dX6_tell_55 : decode cX6_tell 55 = .ok (.iconst 3, 1) := by decide +kernel
theorem dX6_tell_56 : decode cX6_tell 56 = .ok (.iload_n 1, 1) := by decide +kernel
theorem dX6_tell_57 : decode cX6_tell 57 = .ok (.iload_n 2, 1) := by decide +kernel
theorem dX6_tell_58 : decode cX6_tell 58 = .ok (.iload 4, 2) := by decide +kernel
theorem dX6_tell_60 : decode cX6_tell 60 = .ok (.invokevirtual 169, 3) := by decide +kernel
theorem dX6_tell_63 : decode cX6_tell 63 = .ok (.aload_n 0, 1) := by decide +kernel
theorem dX6_tell_64 : decode cX6_tell 64 = .ok (.getfield 28, 3) := by decide +kernel
theorem dX6_tell_67 : decode cX6_tell 67 = .ok (.invokevirtual 111, 3) := by decide +kernel
theorem dX6_tell_70 : decode cX6_tell 70 = .ok (.ireturn, 1) := by decide +kernel
theorem dX6_undo_0 : decode cX6_undo 0 = .ok (.aload_n 0, 1) := by decide +kernel
theorem dX6_undo_1 : decode cX6_undo 1 = .ok (.getfield 46, 3) := by decide +kernel
theorem dX6_undo_4 : decode cX6_undo 4 = .ok (.getfield 85, 3) := by decide +kernel
theorem dX6_undo_7 : decode cX6_undo 7 = .ok (.ifCond .ne 6, 3) := by decide +kernel
theorem dX6_undo_10 : decode cX6_undo 10 = .ok (.bipush (-3), 2) := by decide +kernel
theorem dX6_undo_12 : decode cX6_undo 12 = .ok (.ireturn, 1) := by decide +kernel
theorem dX6_undo_13 : decode cX6_undo 13 = .ok (.aload_n 0, 1) := by decide +kernel
theorem dX6_undo_14 : decode cX6_undo 14 = .ok (.getfield 46, 3) := by decide +kernel
theorem dX6_undo_17 : decode cX6_undo 17 = .ok (.aload_n 0, 1) := by decide +kernel
theorem dX6_undo_18 : decode cX6_undo 18 = .ok (.getfield 28, 3) := by decide +kernel
theorem dX6_undo_21 : decode cX6_undo 21 = .ok (.invokevirtual 183, 3) := by decide +kernel
theorem dX6_undo_24 : decode cX6_undo 24 = .ok (.aload_n 0, 1) := by decide +kernel
theorem dX6_undo_25 : decode cX6_undo 25 = .ok (.getfield 46, 3) := by decide +kernel
theorem dX6_undo_28 : decode cX6_undo 28 = .ok (.getfield 85, 3) := by decide +kernel
theorem dX6_undo_31 : decode cX6_undo 31 = .ok (.ireturn, 1) := by decide +kernel
theorem dX6_cross_0 : decode cX6_cross 0 = .ok (.aload_n 0, 1) := by decide +kernel
theorem dX6_cross_1 : decode cX6_cross 1 = .ok (.getfield 28, 3) := by decide +kernel
theorem dX6_cross_4 : decode cX6_cross 4 = .ok (.iload_n 1, 1) := by decide +kernel
theorem dX6_cross_5 : decode cX6_cross 5 = .ok (.invokevirtual 131, 3) := by decide +kernel
theorem dX6_cross_8 : decode cX6_cross 8 = .ok (.ifCond .eq 14, 3) := by decide +kernel
theorem dX6_cross_11 : decode cX6_cross 11 = .ok (.aload_n 0, 1) := by decide +kernel
theorem dX6_cross_12 : decode cX6_cross 12 = .ok (.getfield 28, 3) := by decide +kernel
theorem dX6_cross_15 : decode cX6_cross 15 = .ok (.iload_n 2, 1) := by decide +kernel
theorem dX6_cross_16 : decode cX6_cross 16 = .ok (.invokevirtual 131, 3) := by decide +kernel
theorem dX6_cross_19 : decode cX6_cross 19 = .ok (.ifCond .ne 5, 3) := by decide +kernel
theorem dX6_cross_22 : decode cX6_cross 22 = .ok (.iconst (-1), 1) := by decide +kernel
theorem dX6_cross_23 : decode cX6_cross 23 = .ok (.ireturn, 1) := by decide +kernel
theorem dX6_cross_24 : decode cX6_cross 24 = .ok (.aload_n 0, 1) := by decide +kernel
theorem dX6_cross_25 : decode cX6_cross 25 = .ok (.getfield 28, 3) := by decide +kernel
theorem dX6_cross_28 : decode cX6_cross 28 = .ok (.iload_n 1, 1) := by decide +kernel
theorem dX6_cross_29 : decode cX6_cross 29 = .ok (.iload_n 2, 1) := by decide +kernel
theorem dX6_cross_30 : decode cX6_cross 30 = .ok (.invokevirtual 187, 3) := by decide +kernel
theorem dX6_cross_33 : decode cX6_cross 33 = .ok (.ifCond .eq 7, 3) := by decide +kernel
theorem dX6_cross_36 : decode cX6_cross 36 = .ok (.iconst 1, 1) := by decide +kernel
theorem dX6_cross_37 : decode cX6_cross 37 = .ok (.goto 4, 3) := by decide +kernel
theorem dX6_cross_40 : decode cX6_cross 40 = .ok (.iconst 0, 1) := by decide +kernel
theorem dX6_cross_41 : decode cX6_cross 41 = .ok (.ireturn, 1) := by decide +kernel
theorem dX6_best_0 : decode cX6_best 0 = .ok (.iload_n 1, 1) := by decide +kernel
theorem dX6_best_1 : decode cX6_best 1 = .ok (.ifCond .lt 8, 3) := by decide +kernel
theorem dX6_best_4 : decode cX6_best 4 = .ok (.iload_n 1, 1) := by decide +kernel
theorem dX6_best_5 : decode cX6_best 5 = .ok (.iconst 2, 1) := by decide +kernel
theorem dX6_best_6 : decode cX6_best 6 = .ok (.if_icmp .le 6, 3) := by decide +kernel
theorem dX6_best_9 : decode cX6_best 9 = .ok (.bipush (-2), 2) := by decide +kernel
theorem dX6_best_11 : decode cX6_best 11 = .ok (.ireturn, 1) := by decide +kernel
theorem dX6_best_12 : decode cX6_best 12 = .ok (.aload_n 0, 1) := by decide +kernel
theorem dX6_best_13 : decode cX6_best 13 = .ok (.getfield 32, 3) := by decide +kernel
theorem dX6_best_16 : decode cX6_best 16 = .ok (.aload_n 0, 1) := by decide +kernel
theorem dX6_best_17 : decode cX6_best 17 = .ok (.getfield 28, 3) := by decide +kernel
theorem dX6_best_20 : decode cX6_best 20 = .ok (.invokevirtual 190, 3) := by decide +kernel
theorem dX6_best_23 : decode cX6_best 23 = .ok (.aload_n 0, 1) := by decide +kernel
theorem dX6_best_24 : decode cX6_best 24 = .ok (.getfield 32, 3) := by decide +kernel
theorem dX6_best_27 : decode cX6_best 27 = .ok (.invokevirtual 192, 3) := by decide +kernel
theorem dX6_best_30 : decode cX6_best 30 = .ok (.aload_n 0, 1) := by decide +kernel
theorem dX6_best_31 : decode cX6_best 31 = .ok (.getfield 32, 3) := by decide +kernel
theorem dX6_best_34 : decode cX6_best 34 = .ok (.invokevirtual 111, 3) := by decide +kernel
theorem dX6_best_37 : decode cX6_best 37 = .ok (.istore_n 2, 1) := by decide +kernel
theorem dX6_best_38 : decode cX6_best 38 = .ok (.aload_n 0, 1) := by decide +kernel
theorem dX6_best_39 : decode cX6_best 39 = .ok (.getfield 32, 3) := by decide +kernel
theorem dX6_best_42 : decode cX6_best 42 = .ok (.invokevirtual 195, 3) := by decide +kernel
theorem dX6_best_45 : decode cX6_best 45 = .ok (.istore_n 3, 1) := by decide +kernel
theorem dX6_best_46 : decode cX6_best 46 = .ok (.iconst 1, 1) := by decide +kernel
theorem dX6_best_47 : decode cX6_best 47 = .ok (.istore 4, 2) := by decide +kernel
theorem dX6_best_49 : decode cX6_best 49 = .ok (.iconst 1, 1) := by decide +kernel
theorem dX6_best_50 : decode cX6_best 50 = .ok (.istore 5, 2) := by decide +kernel
theorem dX6_best_52 : decode cX6_best 52 = .ok (.iload 5, 2) := by decide +kernel
theorem dX6_best_54 : decode cX6_best 54 = .ok (.bipush 24, 2) := by decide +kernel
theorem dX6_best_56 : decode cX6_best 56 = .ok (.if_icmp .ge 60, 3) := by decide +kernel
theorem dX6_best_59 : decode cX6_best 59 = .ok (.aload_n 0, 1) := by decide +kernel
theorem dX6_best_60 : decode cX6_best 60 = .ok (.getfield 32, 3) := by decide +kernel
theorem dX6_best_63 : decode cX6_best 63 = .ok (.invokevirtual 198, 3) := by decide +kernel
theorem dX6_best_66 : decode cX6_best 66 = .ok (.ifCond .eq 50, 3) := by decide +kernel
theorem dX6_best_69 : decode cX6_best 69 = .ok (.aload_n 0, 1) := by decide +kernel
theorem dX6_best_70 : decode cX6_best 70 = .ok (.getfield 32, 3) := by decide +kernel
theorem dX6_best_73 : decode cX6_best 73 = .ok (.invokevirtual 111, 3) := by decide +kernel
theorem dX6_best_76 : decode cX6_best 76 = .ok (.istore 6, 2) := by decide +kernel
theorem dX6_best_78 : decode cX6_best 78 = .ok (.iload 6, 2) := by decide +kernel
theorem dX6_best_80 : decode cX6_best 80 = .ok (.iload_n 2, 1) := by decide +kernel
theorem dX6_best_81 : decode cX6_best 81 = .ok (.if_icmp .ge 20, 3) := by decide +kernel
theorem dX6_best_84 : decode cX6_best 84 = .ok (.iload 6, 2) := by decide +kernel
theorem dX6_best_86 : decode cX6_best 86 = .ok (.istore_n 2, 1) := by decide +kernel
theorem dX6_best_87 : decode cX6_best 87 = .ok (.aload_n 0, 1) := by decide +kernel
theorem dX6_best_88 : decode cX6_best 88 = .ok (.getfield 32, 3) := by decide +kernel
theorem dX6_best_91 : decode cX6_best 91 = .ok (.invokevirtual 195, 3) := by decide +kernel
theorem dX6_best_94 : decode cX6_best 94 = .ok (.istore_n 3, 1) := by decide +kernel
theorem dX6_best_95 : decode cX6_best 95 = .ok (.iconst 1, 1) := by decide +kernel
theorem dX6_best_96 : decode cX6_best 96 = .ok (.istore 4, 2) := by decide +kernel
theorem dX6_best_98 : decode cX6_best 98 = .ok (.goto 12, 3) := by decide +kernel
theorem dX6_best_101 : decode cX6_best 101 = .ok (.iload 6, 2) := by decide +kernel
theorem dX6_best_103 : decode cX6_best 103 = .ok (.iload_n 2, 1) := by decide +kernel
theorem dX6_best_104 : decode cX6_best 104 = .ok (.if_icmp .ne 6, 3) := by decide +kernel
theorem dX6_best_107 : decode cX6_best 107 = .ok (.iinc 4 1, 3) := by decide +kernel
theorem dX6_best_110 : decode cX6_best 110 = .ok (.iinc 5 1, 3) := by decide +kernel
theorem dX6_best_113 : decode cX6_best 113 = .ok (.goto (-61), 3) := by decide +kernel
theorem dX6_best_116 : decode cX6_best 116 = .ok (.iload_n 1, 1) := by decide +kernel
theorem dX6_best_117 : decode cX6_best 117 = .ok (.ifCond .ne 7, 3) := by decide +kernel
theorem dX6_best_120 : decode cX6_best 120 = .ok (.iload_n 2, 1) := by decide +kernel
theorem dX6_best_121 : decode cX6_best 121 = .ok (.goto 14, 3) := by decide +kernel
theorem dX6_best_124 : decode cX6_best 124 = .ok (.iload_n 1, 1) := by decide +kernel
theorem dX6_best_125 : decode cX6_best 125 = .ok (.iconst 1, 1) := by decide +kernel
theorem dX6_best_126 : decode cX6_best 126 = .ok (.if_icmp .ne 7, 3) := by decide +kernel
theorem dX6_best_129 : decode cX6_best 129 = .ok (.iload_n 3, 1) := by decide +kernel
theorem dX6_best_130 : decode cX6_best 130 = .ok (.goto 5, 3) := by decide +kernel
theorem dX6_best_133 : decode cX6_best 133 = .ok (.iload 4, 2) := by decide +kernel
theorem dX6_best_135 : decode cX6_best 135 = .ok (.ireturn, 1) := by decide +kernel
theorem dX6_judge_0 : decode cX6_judge 0 = .ok (.iload_n 1, 1) := by decide +kernel
theorem dX6_judge_1 : decode cX6_judge 1 = .ok (.iconst 1, 1) := by decide +kernel
theorem dX6_judge_2 : decode cX6_judge 2 = .ok (.if_icmp .lt 24, 3) := by decide +kernel
theorem dX6_judge_5 : decode cX6_judge 5 = .ok (.iload_n 1, 1) := by decide +kernel
theorem dX6_judge_6 : decode cX6_judge 6 = .ok (.iconst 4, 1) := by decide +kernel
theorem dX6_judge_7 : decode cX6_judge 7 = .ok (.if_icmp .gt 19, 3) := by decide +kernel
theorem dX6_judge_10 : decode cX6_judge 10 = .ok (.lload_n 2, 1) := by decide +kernel
theorem dX6_judge_11 : decode cX6_judge 11 = .ok (.lconst 0, 1) := by decide +kernel
theorem dX6_judge_12 : decode cX6_judge 12 = .ok (.lcmp, 1) := by decide +kernel
theorem dX6_judge_13 : decode cX6_judge 13 = .ok (.ifCond .lt 13, 3) := by decide +kernel
theorem dX6_judge_16 : decode cX6_judge 16 = .ok (.lload_n 2, 1) := by decide +kernel
theorem dX6_judge_17 : decode cX6_judge 17 = .ok (.iload_n 1, 1) := by decide +kernel
theorem dX6_judge_18 : decode cX6_judge 18 = .ok (.invokestatic 202, 3) := by decide +kernel
theorem dX6_judge_21 : decode cX6_judge 21 = .ok (.lconst 0, 1) := by decide +kernel
theorem dX6_judge_22 : decode cX6_judge 22 = .ok (.lcmp, 1) := by decide +kernel
theorem dX6_judge_23 : decode cX6_judge 23 = .ok (.ifCond .eq 6, 3) := by decide +kernel
theorem dX6_judge_26 : decode cX6_judge 26 = .ok (.bipush (-2), 2) := by decide +kernel
theorem dX6_judge_28 : decode cX6_judge 28 = .ok (.ireturn, 1) := by decide +kernel
theorem dX6_judge_29 : decode cX6_judge 29 = .ok (.aload_n 0, 1) := by decide +kernel
theorem dX6_judge_30 : decode cX6_judge 30 = .ok (.getfield 32, 3) := by decide +kernel
theorem dX6_judge_33 : decode cX6_judge 33 = .ok (.aload_n 0, 1) := by decide +kernel
theorem dX6_judge_34 : decode cX6_judge 34 = .ok (.getfield 28, 3) := by decide +kernel
theorem dX6_judge_37 : decode cX6_judge 37 = .ok (.invokevirtual 190, 3) := by decide +kernel
theorem dX6_judge_40 : decode cX6_judge 40 = .ok (.iconst 0, 1) := by decide +kernel
theorem dX6_judge_41 : decode cX6_judge 41 = .ok (.istore 4, 2) := by decide +kernel
theorem dX6_judge_43 : decode cX6_judge 43 = .ok (.iload 4, 2) := by decide +kernel
theorem dX6_judge_45 : decode cX6_judge 45 = .ok (.iload_n 1, 1) := by decide +kernel
theorem dX6_judge_46 : decode cX6_judge 46 = .ok (.if_icmp .ge 63, 3) := by decide +kernel
theorem dX6_judge_49 : decode cX6_judge 49 = .ok (.lload_n 2, 1) := by decide +kernel
theorem dX6_judge_50 : decode cX6_judge 50 = .ok (.iload_n 1, 1) := by decide +kernel
theorem dX6_judge_51 : decode cX6_judge 51 = .ok (.iconst 1, 1) := by decide +kernel
theorem dX6_judge_52 : decode cX6_judge 52 = .ok (.isub, 1) := by decide +kernel
theorem dX6_judge_53 : decode cX6_judge 53 = .ok (.iload 4, 2) := by decide +kernel
theorem dX6_judge_55 : decode cX6_judge 55 = .ok (.isub, 1) := by decide +kernel
theorem dX6_judge_56 : decode cX6_judge 56 = .ok (.invokestatic 202, 3) := by decide +kernel
theorem dX6_judge_59 : decode cX6_judge 59 = .ok (.ldc2_w 206, 3) := by decide +kernel
theorem dX6_judge_62 : decode cX6_judge 62 = .ok (.lrem, 1) := by decide +kernel
theorem dX6_judge_63 : decode cX6_judge 63 = .ok (.l2i, 1) := by decide +kernel
theorem dX6_judge_64 : decode cX6_judge 64 = .ok (.istore 5, 2) := by decide +kernel
theorem dX6_judge_66 : decode cX6_judge 66 = .ok (.aload_n 0, 1) := by decide +kernel
theorem dX6_judge_67 : decode cX6_judge 67 = .ok (.iload 5, 2) := by decide +kernel
theorem dX6_judge_69 : decode cX6_judge 69 = .ok (.sipush 1000, 3) := by decide +kernel
theorem dX6_judge_72 : decode cX6_judge 72 = .ok (.idiv, 1) := by decide +kernel
theorem dX6_judge_73 : decode cX6_judge 73 = .ok (.iload 5, 2) := by decide +kernel
theorem dX6_judge_75 : decode cX6_judge 75 = .ok (.bipush 100, 2) := by decide +kernel
theorem dX6_judge_77 : decode cX6_judge 77 = .ok (.idiv, 1) := by decide +kernel
theorem dX6_judge_78 : decode cX6_judge 78 = .ok (.bipush 10, 2) := by decide +kernel
theorem dX6_judge_80 : decode cX6_judge 80 = .ok (.irem, 1) := by decide +kernel
theorem dX6_judge_81 : decode cX6_judge 81 = .ok (.iload 5, 2) := by decide +kernel
theorem dX6_judge_83 : decode cX6_judge 83 = .ok (.bipush 10, 2) := by decide +kernel
theorem dX6_judge_85 : decode cX6_judge 85 = .ok (.idiv, 1) := by decide +kernel
theorem dX6_judge_86 : decode cX6_judge 86 = .ok (.bipush 10, 2) := by decide +kernel
theorem dX6_judge_88 : decode cX6_judge 88 = .ok (.irem, 1) := by decide +kernel
theorem dX6_judge_89 : decode cX6_judge 89 = .ok (.iload 5, 2) := by decide +kernel
theorem dX6_judge_91 : decode cX6_judge 91 = .ok (.bipush 10, 2) := by decide +kernel
theorem dX6_judge_93 : decode cX6_judge 93 = .ok (.irem, 1) := by decide +kernel
theorem dX6_judge_94 : decode cX6_judge 94 = .ok (.invokevirtual 208, 3) := by decide +kernel
theorem dX6_judge_97 : decode cX6_judge 97 = .ok (.ifCond .ne 6, 3) := by decide +kernel
theorem dX6_judge_100 : decode cX6_judge 100 = .ok (.iload 4, 2) := by decide +kernel
theorem dX6_judge_102 : decode cX6_judge 102 = .ok (.ireturn, 1) := by decide +kernel
theorem dX6_judge_103 : decode cX6_judge 103 = .ok (.iinc 4 1, 3) := by decide +kernel
theorem dX6_judge_106 : decode cX6_judge 106 = .ok (.goto (-63), 3) := by decide +kernel
theorem dX6_judge_109 : decode cX6_judge 109 = .ok (.bipush (-9), 2) := by decide +kernel
theorem dX6_judge_111 : decode cX6_judge 111 = .ok (.ireturn, 1) := by decide +kernel
theorem dX6_share_0 : decode cX6_share 0 = .ok (.aload_n 0, 1) := by decide +kernel
theorem dX6_share_1 : decode cX6_share 1 = .ok (.getfield 28, 3) := by decide +kernel
theorem dX6_share_4 : decode cX6_share 4 = .ok (.iload_n 1, 1) := by decide +kernel
theorem dX6_share_5 : decode cX6_share 5 = .ok (.invokevirtual 131, 3) := by decide +kernel
theorem dX6_share_8 : decode cX6_share 8 = .ok (.ifCond .ne 5, 3) := by decide +kernel
theorem dX6_share_11 : decode cX6_share 11 = .ok (.iconst (-1), 1) := by decide +kernel
theorem dX6_share_12 : decode cX6_share 12 = .ok (.ireturn, 1) := by decide +kernel
theorem dX6_share_13 : decode cX6_share 13 = .ok (.aload_n 0, 1) := by decide +kernel
theorem dX6_share_14 : decode cX6_share 14 = .ok (.getfield 28, 3) := by decide +kernel
theorem dX6_share_17 : decode cX6_share 17 = .ok (.getfield 97, 3) := by decide +kernel
theorem dX6_share_20 : decode cX6_share 20 = .ok (.istore_n 3, 1) := by decide +kernel
theorem dX6_share_21 : decode cX6_share 21 = .ok (.iconst 0, 1) := by decide +kernel
theorem dX6_share_22 : decode cX6_share 22 = .ok (.istore 4, 2) := by decide +kernel
theorem dX6_share_24 : decode cX6_share 24 = .ok (.iconst 0, 1) := by decide +kernel
theorem dX6_share_25 : decode cX6_share 25 = .ok (.istore 5, 2) := by decide +kernel
theorem dX6_share_27 : decode cX6_share 27 = .ok (.iload 5, 2) := by decide +kernel
theorem dX6_share_29 : decode cX6_share 29 = .ok (.aload_n 0, 1) := by decide +kernel
theorem dX6_share_30 : decode cX6_share 30 = .ok (.getfield 28, 3) := by decide +kernel
theorem dX6_share_33 : decode cX6_share 33 = .ok (.invokevirtual 100, 3) := by decide +kernel
theorem dX6_share_36 : decode cX6_share 36 = .ok (.if_icmp .gt 75, 3) := by decide +kernel
theorem dX6_share_39 : decode cX6_share 39 = .ok (.iload 5, 2) := by decide +kernel
theorem dX6_share_41 : decode cX6_share 41 = .ok (.iconst 1, 1) := by decide +kernel
theorem dX6_share_42 : decode cX6_share 42 = .ok (.iload_n 1, 1) := by decide +kernel
theorem dX6_share_43 : decode cX6_share 43 = .ok (.ishl, 1) := by decide +kernel
theorem dX6_share_44 : decode cX6_share 44 = .ok (.iand, 1) := by decide +kernel
theorem dX6_share_45 : decode cX6_share 45 = .ok (.ifCond .ne 60, 3) := by decide +kernel
theorem dX6_share_48 : decode cX6_share 48 = .ok (.iload 5, 2) := by decide +kernel
theorem dX6_share_50 : decode cX6_share 50 = .ok (.invokestatic 212, 3) := by decide +kernel
theorem dX6_share_53 : decode cX6_share 53 = .ok (.istore 6, 2) := by decide +kernel
theorem dX6_share_55 : decode cX6_share 55 = .ok (.getstatic 217, 3) := by decide +kernel
theorem dX6_share_58 : decode cX6_share 58 = .ok (.iload 6, 2) := by decide +kernel
theorem dX6_share_60 : decode cX6_share 60 = .ok (.iaload, 1) := by decide +kernel
theorem dX6_share_61 : decode cX6_share 61 = .ok (.getstatic 217, 3) := by decide +kernel
theorem dX6_share_64 : decode cX6_share 64 = .ok (.iload_n 3, 1) := by decide +kernel
theorem dX6_share_65 : decode cX6_share 65 = .ok (.iconst 1, 1) := by decide +kernel
theorem dX6_share_66 : decode cX6_share 66 = .ok (.isub, 1) := by decide +kernel
theorem dX6_share_67 : decode cX6_share 67 = .ok (.iload 6, 2) := by decide +kernel
theorem dX6_share_69 : decode cX6_share 69 = .ok (.isub, 1) := by decide +kernel
theorem dX6_share_70 : decode cX6_share 70 = .ok (.iaload, 1) := by decide +kernel
theorem dX6_share_71 : decode cX6_share 71 = .ok (.imul, 1) := by decide +kernel
theorem dX6_share_72 : decode cX6_share 72 = .ok (.istore 7, 2) := by decide +kernel
theorem dX6_share_74 : decode cX6_share 74 = .ok (.iload 4, 2) := by decide +kernel
theorem dX6_share_76 : decode cX6_share 76 = .ok (.iload 7, 2) := by decide +kernel
theorem dX6_share_78 : decode cX6_share 78 = .ok (.aload_n 0, 1) := by decide +kernel
theorem dX6_share_79 : decode cX6_share 79 = .ok (.getfield 28, 3) := by decide +kernel
theorem dX6_share_82 : decode cX6_share 82 = .ok (.iload 5, 2) := by decide +kernel
theorem dX6_share_84 : decode cX6_share 84 = .ok (.iconst 1, 1) := by decide +kernel
theorem dX6_share_85 : decode cX6_share 85 = .ok (.iload_n 1, 1) := by decide +kernel
theorem dX6_share_86 : decode cX6_share 86 = .ok (.ishl, 1) := by decide +kernel
theorem dX6_share_87 : decode cX6_share 87 = .ok (.ior, 1) := by decide +kernel
theorem dX6_share_88 : decode cX6_share 88 = .ok (.invokevirtual 104, 3) := by decide +kernel
theorem dX6_share_91 : decode cX6_share 91 = .ok (.aload_n 0, 1) := by decide +kernel
theorem dX6_share_92 : decode cX6_share 92 = .ok (.getfield 28, 3) := by decide +kernel
theorem dX6_share_95 : decode cX6_share 95 = .ok (.iload 5, 2) := by decide +kernel
theorem dX6_share_97 : decode cX6_share 97 = .ok (.invokevirtual 104, 3) := by decide +kernel
theorem dX6_share_100 : decode cX6_share 100 = .ok (.isub, 1) := by decide +kernel
theorem dX6_share_101 : decode cX6_share 101 = .ok (.imul, 1) := by decide +kernel
theorem dX6_share_102 : decode cX6_share 102 = .ok (.iadd, 1) := by decide +kernel
theorem dX6_share_103 : decode cX6_share 103 = .ok (.istore 4, 2) := by decide +kernel
theorem dX6_share_105 : decode cX6_share 105 = .ok (.iinc 5 1, 3) := by decide +kernel
theorem dX6_share_108 : decode cX6_share 108 = .ok (.goto (-81), 3) := by decide +kernel
theorem dX6_share_111 : decode cX6_share 111 = .ok (.iload 4, 2) := by decide +kernel
theorem dX6_share_113 : decode cX6_share 113 = .ok (.getstatic 217, 3) := by decide +kernel
theorem dX6_share_116 : decode cX6_share 116 = .ok (.iload_n 3, 1) := by decide +kernel
theorem dX6_share_117 : decode cX6_share 117 = .ok (.iaload, 1) := by decide +kernel
theorem dX6_share_118 : decode cX6_share 118 = .ok (.iload_n 2, 1) := by decide +kernel
theorem dX6_share_119 : decode cX6_share 119 = .ok (.invokestatic 220, 3) := by decide +kernel
theorem dX6_share_122 : decode cX6_share 122 = .ok (.ireturn, 1) := by decide +kernel
theorem dX6_see_0 : decode cX6_see 0 = .ok (.aload_n 0, 1) := by decide +kernel
theorem dX6_see_1 : decode cX6_see 1 = .ok (.getfield 19, 3) := by decide +kernel
theorem dX6_see_4 : decode cX6_see 4 = .ok (.iload_n 1, 1) := by decide +kernel
theorem dX6_see_5 : decode cX6_see 5 = .ok (.invokevirtual 125, 3) := by decide +kernel
theorem dX6_see_8 : decode cX6_see 8 = .ok (.ifCond .ne 5, 3) := by decide +kernel
theorem dX6_see_11 : decode cX6_see 11 = .ok (.iconst (-1), 1) := by decide +kernel
theorem dX6_see_12 : decode cX6_see 12 = .ok (.ireturn, 1) := by decide +kernel
theorem dX6_see_13 : decode cX6_see 13 = .ok (.iload_n 2, 1) := by decide +kernel
theorem dX6_see_14 : decode cX6_see 14 = .ok (.ifCond .lt 29, 3) := by decide +kernel
theorem dX6_see_17 : decode cX6_see 17 = .ok (.iload_n 2, 1) := by decide +kernel
theorem dX6_see_18 : decode cX6_see 18 = .ok (.iconst 4, 1) := by decide +kernel
theorem dX6_see_19 : decode cX6_see 19 = .ok (.if_icmp .gt 24, 3) := by decide +kernel
theorem dX6_see_22 : decode cX6_see 22 = .ok (.iload_n 3, 1) := by decide +kernel
theorem dX6_see_23 : decode cX6_see 23 = .ok (.iconst 1, 1) := by decide +kernel
theorem dX6_see_24 : decode cX6_see 24 = .ok (.if_icmp .lt 19, 3) := by decide +kernel
theorem dX6_see_27 : decode cX6_see 27 = .ok (.iload_n 3, 1) := by decide +kernel
theorem dX6_see_28 : decode cX6_see 28 = .ok (.iconst 5, 1) := by decide +kernel
theorem dX6_see_29 : decode cX6_see 29 = .ok (.if_icmp .gt 14, 3) := by decide +kernel
theorem dX6_see_32 : decode cX6_see 32 = .ok (.iload 4, 2) := by decide +kernel
theorem dX6_see_34 : decode cX6_see 34 = .ok (.ifCond .lt 9, 3) := by decide +kernel
theorem dX6_see_37 : decode cX6_see 37 = .ok (.iload 4, 2) := by decide +kernel
theorem dX6_see_39 : decode cX6_see 39 = .ok (.iconst 1, 1) := by decide +kernel
theorem dX6_see_40 : decode cX6_see 40 = .ok (.if_icmp .le 6, 3) := by decide +kernel
theorem dX6_see_43 : decode cX6_see 43 = .ok (.bipush (-2), 2) := by decide +kernel
theorem dX6_see_45 : decode cX6_see 45 = .ok (.ireturn, 1) := by decide +kernel
theorem dX6_see_46 : decode cX6_see 46 = .ok (.aload_n 0, 1) := by decide +kernel
theorem dX6_see_47 : decode cX6_see 47 = .ok (.getfield 53, 3) := by decide +kernel
theorem dX6_see_50 : decode cX6_see 50 = .ok (.iload_n 1, 1) := by decide +kernel
theorem dX6_see_51 : decode cX6_see 51 = .ok (.iload_n 2, 1) := by decide +kernel
theorem dX6_see_52 : decode cX6_see 52 = .ok (.iload_n 3, 1) := by decide +kernel
theorem dX6_see_53 : decode cX6_see 53 = .ok (.iload 4, 2) := by decide +kernel
theorem dX6_see_55 : decode cX6_see 55 = .ok (.iconst 1, 1) := by decide +kernel
theorem dX6_see_56 : decode cX6_see 56 = .ok (.if_icmp .ne 7, 3) := by decide +kernel
theorem dX6_see_59 : decode cX6_see 59 = .ok (.iconst 1, 1) := by decide +kernel
theorem dX6_see_60 : decode cX6_see 60 = .ok (.goto 4, 3) := by decide +kernel
theorem dX6_see_63 : decode cX6_see 63 = .ok (.iconst 0, 1) := by decide +kernel
theorem dX6_see_64 : decode cX6_see 64 = .ok (.invokevirtual 224, 3) := by decide +kernel
theorem dX6_see_67 : decode cX6_see 67 = .ok (.ifCond .eq 13, 3) := by decide +kernel
theorem dX6_see_70 : decode cX6_see 70 = .ok (.aload_n 0, 1) := by decide +kernel
theorem dX6_see_71 : decode cX6_see 71 = .ok (.getfield 53, 3) := by decide +kernel
theorem dX6_see_74 : decode cX6_see 74 = .ok (.getfield 117, 3) := by decide +kernel
theorem dX6_see_77 : decode cX6_see 77 = .ok (.goto 5, 3) := by decide +kernel
theorem dX6_see_80 : decode cX6_see 80 = .ok (.bipush (-4), 2) := by decide +kernel
theorem dX6_see_82 : decode cX6_see 82 = .ok (.ireturn, 1) := by decide +kernel
theorem dX6_unsee_0 : decode cX6_unsee 0 = .ok (.aload_n 0, 1) := by decide +kernel
theorem dX6_unsee_1 : decode cX6_unsee 1 = .ok (.getfield 53, 3) := by decide +kernel
theorem dX6_unsee_4 : decode cX6_unsee 4 = .ok (.getfield 117, 3) := by decide +kernel
theorem dX6_unsee_7 : decode cX6_unsee 7 = .ok (.istore_n 1, 1) := by decide +kernel
theorem dX6_unsee_8 : decode cX6_unsee 8 = .ok (.aload_n 0, 1) := by decide +kernel
theorem dX6_unsee_9 : decode cX6_unsee 9 = .ok (.getfield 53, 3) := by decide +kernel
theorem dX6_unsee_12 : decode cX6_unsee 12 = .ok (.iconst 0, 1) := by decide +kernel
theorem dX6_unsee_13 : decode cX6_unsee 13 = .ok (.putfield 117, 3) := by decide +kernel
theorem dX6_unsee_16 : decode cX6_unsee 16 = .ok (.iload_n 1, 1) := by decide +kernel
theorem dX6_unsee_17 : decode cX6_unsee 17 = .ok (.ireturn, 1) := by decide +kernel
theorem dX6_which_0 : decode cX6_which 0 = .ok (.iload_n 1, 1) := by decide +kernel
theorem dX6_which_1 : decode cX6_which 1 = .ok (.ifCond .eq 11, 3) := by decide +kernel
theorem dX6_which_4 : decode cX6_which 4 = .ok (.iload_n 1, 1) := by decide +kernel
theorem dX6_which_5 : decode cX6_which 5 = .ok (.iconst 1, 1) := by decide +kernel
theorem dX6_which_6 : decode cX6_which 6 = .ok (.if_icmp .eq 6, 3) := by decide +kernel
theorem dX6_which_9 : decode cX6_which 9 = .ok (.bipush (-2), 2) := by decide +kernel
theorem dX6_which_11 : decode cX6_which 11 = .ok (.ireturn, 1) := by decide +kernel
theorem dX6_which_12 : decode cX6_which 12 = .ok (.iconst 0, 1) := by decide +kernel
theorem dX6_which_13 : decode cX6_which 13 = .ok (.istore_n 2, 1) := by decide +kernel
theorem dX6_which_14 : decode cX6_which 14 = .ok (.bipush (-9), 2) := by decide +kernel
theorem dX6_which_16 : decode cX6_which 16 = .ok (.istore_n 3, 1) := by decide +kernel
theorem dX6_which_17 : decode cX6_which 17 = .ok (.iconst 0, 1) := by decide +kernel
theorem dX6_which_18 : decode cX6_which 18 = .ok (.istore 4, 2) := by decide +kernel
theorem dX6_which_20 : decode cX6_which 20 = .ok (.iload 4, 2) := by decide +kernel
theorem dX6_which_22 : decode cX6_which 22 = .ok (.bipush 125, 2) := by decide +kernel
theorem dX6_which_24 : decode cX6_which 24 = .ok (.if_icmp .ge 71, 3) := by decide +kernel
theorem dX6_which_27 : decode cX6_which 27 = .ok (.bipush 111, 2) := by decide +kernel
theorem dX6_which_29 : decode cX6_which 29 = .ok (.bipush 100, 2) := by decide +kernel
theorem dX6_which_31 : decode cX6_which 31 = .ok (.iload 4, 2) := by decide +kernel
theorem dX6_which_33 : decode cX6_which 33 = .ok (.bipush 25, 2) := by decide +kernel
theorem dX6_which_35 : decode cX6_which 35 = .ok (.idiv, 1) := by decide +kernel
theorem dX6_which_36 : decode cX6_which 36 = .ok (.imul, 1) := by decide +kernel
theorem dX6_which_37 : decode cX6_which 37 = .ok (.iadd, 1) := by decide +kernel
theorem dX6_which_38 : decode cX6_which 38 = .ok (.bipush 10, 2) := by decide +kernel
theorem dX6_which_40 : decode cX6_which 40 = .ok (.iload 4, 2) := by decide +kernel
theorem dX6_which_42 : decode cX6_which 42 = .ok (.iconst 5, 1) := by decide +kernel
theorem dX6_which_43 : decode cX6_which 43 = .ok (.idiv, 1) := by decide +kernel
theorem dX6_which_44 : decode cX6_which 44 = .ok (.iconst 5, 1) := by decide +kernel
theorem dX6_which_45 : decode cX6_which 45 = .ok (.irem, 1) := by decide +kernel
theorem dX6_which_46 : decode cX6_which 46 = .ok (.imul, 1) := by decide +kernel
theorem dX6_which_47 : decode cX6_which 47 = .ok (.iadd, 1) := by decide +kernel
theorem dX6_which_48 : decode cX6_which 48 = .ok (.iload 4, 2) := by decide +kernel
theorem dX6_which_50 : decode cX6_which 50 = .ok (.iconst 5, 1) := by decide +kernel
theorem dX6_which_51 : decode cX6_which 51 = .ok (.irem, 1) := by decide +kernel
theorem dX6_which_52 : decode cX6_which 52 = .ok (.iadd, 1) := by decide +kernel
theorem dX6_which_53 : decode cX6_which 53 = .ok (.istore 5, 2) := by decide +kernel
theorem dX6_which_55 : decode cX6_which 55 = .ok (.aload_n 0, 1) := by decide +kernel
theorem dX6_which_56 : decode cX6_which 56 = .ok (.getfield 53, 3) := by decide +kernel
theorem dX6_which_59 : decode cX6_which 59 = .ok (.iload 5, 2) := by decide +kernel
theorem dX6_which_61 : decode cX6_which 61 = .ok (.aload_n 0, 1) := by decide +kernel
theorem dX6_which_62 : decode cX6_which 62 = .ok (.getfield 19, 3) := by decide +kernel
theorem dX6_which_65 : decode cX6_which 65 = .ok (.aload_n 0, 1) := by decide +kernel
theorem dX6_which_66 : decode cX6_which 66 = .ok (.getfield 28, 3) := by decide +kernel
theorem dX6_which_69 : decode cX6_which 69 = .ok (.invokevirtual 227, 3) := by decide +kernel
theorem dX6_which_72 : decode cX6_which 72 = .ok (.ifCond .eq 17, 3) := by decide +kernel
theorem dX6_which_75 : decode cX6_which 75 = .ok (.iload_n 2, 1) := by decide +kernel
theorem dX6_which_76 : decode cX6_which 76 = .ok (.ifCond .ne 8, 3) := by decide +kernel
theorem dX6_which_79 : decode cX6_which 79 = .ok (.iload 5, 2) := by decide +kernel
theorem dX6_which_81 : decode cX6_which 81 = .ok (.goto 4, 3) := by decide +kernel
theorem dX6_which_84 : decode cX6_which 84 = .ok (.iload_n 3, 1) := by decide +kernel
theorem dX6_which_85 : decode cX6_which 85 = .ok (.istore_n 3, 1) := by decide +kernel
theorem dX6_which_86 : decode cX6_which 86 = .ok (.iinc 2 1, 3) := by decide +kernel
theorem dX6_which_89 : decode cX6_which 89 = .ok (.iinc 4 1, 3) := by decide +kernel
theorem dX6_which_92 : decode cX6_which 92 = .ok (.goto (-72), 3) := by decide +kernel
theorem dX6_which_95 : decode cX6_which 95 = .ok (.iload_n 1, 1) := by decide +kernel
theorem dX6_which_96 : decode cX6_which 96 = .ok (.ifCond .ne 7, 3) := by decide +kernel
theorem dX6_which_99 : decode cX6_which 99 = .ok (.iload_n 2, 1) := by decide +kernel
theorem dX6_which_100 : decode cX6_which 100 = .ok (.goto 4, 3) := by decide +kernel
theorem dX6_which_103 : decode cX6_which 103 = .ok (.iload_n 3, 1) := by decide +kernel
theorem dX6_which_104 : decode cX6_which 104 = .ok (.ireturn, 1) := by decide +kernel
theorem dX6_fails_0 : decode cX6_fails 0 = .ok (.aload_n 0, 1) := by decide +kernel
theorem dX6_fails_1 : decode cX6_fails 1 = .ok (.getfield 19, 3) := by decide +kernel
theorem dX6_fails_4 : decode cX6_fails 4 = .ok (.iload_n 1, 1) := by decide +kernel
theorem dX6_fails_5 : decode cX6_fails 5 = .ok (.iload_n 2, 1) := by decide +kernel
theorem dX6_fails_6 : decode cX6_fails 6 = .ok (.invokevirtual 144, 3) := by decide +kernel
theorem dX6_fails_9 : decode cX6_fails 9 = .ok (.ifCond .ne 5, 3) := by decide +kernel
theorem dX6_fails_12 : decode cX6_fails 12 = .ok (.iconst (-1), 1) := by decide +kernel
theorem dX6_fails_13 : decode cX6_fails 13 = .ok (.ireturn, 1) := by decide +kernel
theorem dX6_fails_14 : decode cX6_fails 14 = .ok (.iload_n 3, 1) := by decide +kernel
theorem dX6_fails_15 : decode cX6_fails 15 = .ok (.ifCond .lt 9, 3) := by decide +kernel
theorem dX6_fails_18 : decode cX6_fails 18 = .ok (.iload_n 3, 1) := by decide +kernel
theorem dX6_fails_19 : decode cX6_fails 19 = .ok (.bipush 10, 2) := by decide +kernel
theorem dX6_fails_21 : decode cX6_fails 21 = .ok (.if_icmp .le 6, 3) := by decide +kernel
theorem dX6_fails_24 : decode cX6_fails 24 = .ok (.bipush (-2), 2) := by decide +kernel
theorem dX6_fails_26 : decode cX6_fails 26 = .ok (.ireturn, 1) := by decide +kernel
theorem dX6_fails_27 : decode cX6_fails 27 = .ok (.aload_n 0, 1) := by decide +kernel
theorem dX6_fails_28 : decode cX6_fails 28 = .ok (.getfield 19, 3) := by decide +kernel
theorem dX6_fails_31 : decode cX6_fails 31 = .ok (.iload_n 1, 1) := by decide +kernel
theorem dX6_fails_32 : decode cX6_fails 32 = .ok (.iload_n 2, 1) := by decide +kernel
theorem dX6_fails_33 : decode cX6_fails 33 = .ok (.invokevirtual 151, 3) := by decide +kernel
theorem dX6_fails_36 : decode cX6_fails 36 = .ok (.istore 5, 2) := by decide +kernel
theorem dX6_fails_38 : decode cX6_fails 38 = .ok (.aload_n 0, 1) := by decide +kernel
theorem dX6_fails_39 : decode cX6_fails 39 = .ok (.getfield 28, 3) := by decide +kernel
theorem dX6_fails_42 : decode cX6_fails 42 = .ok (.iload_n 1, 1) := by decide +kernel
theorem dX6_fails_43 : decode cX6_fails 43 = .ok (.iload_n 2, 1) := by decide +kernel
theorem dX6_fails_44 : decode cX6_fails 44 = .ok (.invokevirtual 148, 3) := by decide +kernel
theorem dX6_fails_47 : decode cX6_fails 47 = .ok (.istore 6, 2) := by decide +kernel
theorem dX6_fails_49 : decode cX6_fails 49 = .ok (.iconst 0, 1) := by decide +kernel
theorem dX6_fails_50 : decode cX6_fails 50 = .ok (.istore 7, 2) := by decide +kernel
theorem dX6_fails_52 : decode cX6_fails 52 = .ok (.iconst 0, 1) := by decide +kernel
theorem dX6_fails_53 : decode cX6_fails 53 = .ok (.istore 8, 2) := by decide +kernel
theorem dX6_fails_55 : decode cX6_fails 55 = .ok (.iload 8, 2) := by decide +kernel
theorem dX6_fails_57 : decode cX6_fails 57 = .ok (.aload_n 0, 1) := by decide +kernel
theorem dX6_fails_58 : decode cX6_fails 58 = .ok (.getfield 28, 3) := by decide +kernel
theorem dX6_fails_61 : decode cX6_fails 61 = .ok (.invokevirtual 100, 3) := by decide +kernel
theorem dX6_fails_64 : decode cX6_fails 64 = .ok (.if_icmp .gt 61, 3) := by decide +kernel
theorem dX6_fails_67 : decode cX6_fails 67 = .ok (.aload_n 0, 1) := by decide +kernel
theorem dX6_fails_68 : decode cX6_fails 68 = .ok (.getfield 28, 3) := by decide +kernel
theorem dX6_fails_71 : decode cX6_fails 71 = .ok (.iload 5, 2) := by decide +kernel
theorem dX6_fails_73 : decode cX6_fails 73 = .ok (.iload 8, 2) := by decide +kernel
theorem dX6_fails_75 : decode cX6_fails 75 = .ok (.invokevirtual 231, 3) := by decide +kernel
theorem dX6_fails_78 : decode cX6_fails 78 = .ok (.iload 6, 2) := by decide +kernel
theorem dX6_fails_80 : decode cX6_fails 80 = .ok (.if_icmp .ne 39, 3) := by decide +kernel
theorem dX6_fails_83 : decode cX6_fails 83 = .ok (.iload 8, 2) := by decide +kernel
theorem dX6_fails_85 : decode cX6_fails 85 = .ok (.invokestatic 212, 3) := by decide +kernel
theorem dX6_fails_88 : decode cX6_fails 88 = .ok (.istore 9, 2) := by decide +kernel
theorem dX6_fails_90 : decode cX6_fails 90 = .ok (.iload 7, 2) := by decide +kernel
theorem dX6_fails_92 : decode cX6_fails 92 = .ok (.bipush 10, 2) := by decide +kernel
theorem dX6_fails_94 : decode cX6_fails 94 = .ok (.iload_n 3, 1) := by decide +kernel
theorem dX6_fails_95 : decode cX6_fails 95 = .ok (.isub, 1) := by decide +kernel
theorem dX6_fails_96 : decode cX6_fails 96 = .ok (.iload 9, 2) := by decide +kernel
theorem dX6_fails_98 : decode cX6_fails 98 = .ok (.invokestatic 234, 3) := by decide +kernel
theorem dX6_fails_101 : decode cX6_fails 101 = .ok (.iload_n 3, 1) := by decide +kernel
theorem dX6_fails_102 : decode cX6_fails 102 = .ok (.aload_n 0, 1) := by decide +kernel
theorem dX6_fails_103 : decode cX6_fails 103 = .ok (.getfield 28, 3) := by decide +kernel
theorem dX6_fails_106 : decode cX6_fails 106 = .ok (.getfield 97, 3) := by decide +kernel
theorem dX6_fails_109 : decode cX6_fails 109 = .ok (.iload 9, 2) := by decide +kernel
theorem dX6_fails_111 : decode cX6_fails 111 = .ok (.isub, 1) := by decide +kernel
theorem dX6_fails_112 : decode cX6_fails 112 = .ok (.invokestatic 234, 3) := by decide +kernel
theorem dX6_fails_115 : decode cX6_fails 115 = .ok (.imul, 1) := by decide +kernel
theorem dX6_fails_116 : decode cX6_fails 116 = .ok (.iadd, 1) := by decide +kernel
theorem dX6_fails_117 : decode cX6_fails 117 = .ok (.istore 7, 2) := by decide +kernel
theorem dX6_fails_119 : decode cX6_fails 119 = .ok (.iinc 8 1, 3) := by decide +kernel
theorem dX6_fails_122 : decode cX6_fails 122 = .ok (.goto (-67), 3) := by decide +kernel
theorem dX6_fails_125 : decode cX6_fails 125 = .ok (.iload 7, 2) := by decide +kernel
theorem dX6_fails_127 : decode cX6_fails 127 = .ok (.bipush 10, 2) := by decide +kernel
theorem dX6_fails_129 : decode cX6_fails 129 = .ok (.aload_n 0, 1) := by decide +kernel
theorem dX6_fails_130 : decode cX6_fails 130 = .ok (.getfield 28, 3) := by decide +kernel
theorem dX6_fails_133 : decode cX6_fails 133 = .ok (.getfield 97, 3) := by decide +kernel
theorem dX6_fails_136 : decode cX6_fails 136 = .ok (.invokestatic 234, 3) := by decide +kernel
theorem dX6_fails_139 : decode cX6_fails 139 = .ok (.iload 4, 2) := by decide +kernel
theorem dX6_fails_141 : decode cX6_fails 141 = .ok (.invokestatic 220, 3) := by decide +kernel
theorem dX6_fails_144 : decode cX6_fails 144 = .ok (.ireturn, 1) := by decide +kernel
theorem dX6_seed_0 : decode cX6_seed 0 = .ok (.aload_n 0, 1) := by decide +kernel
theorem dX6_seed_1 : decode cX6_seed 1 = .ok (.getfield 57, 3) := by decide +kernel
theorem dX6_seed_4 : decode cX6_seed 4 = .ok (.lstore_n 3, 1) := by decide +kernel
theorem dX6_seed_5 : decode cX6_seed 5 = .ok (.aload_n 0, 1) := by decide +kernel
theorem dX6_seed_6 : decode cX6_seed 6 = .ok (.lload_n 1, 1) := by decide +kernel
theorem dX6_seed_7 : decode cX6_seed 7 = .ok (.putfield 57, 3) := by decide +kernel
theorem dX6_seed_10 : decode cX6_seed 10 = .ok (.lload_n 3, 1) := by decide +kernel
theorem dX6_seed_11 : decode cX6_seed 11 = .ok (.lreturn, 1) := by decide +kernel
theorem dX6_drawn_0 : decode cX6_drawn 0 = .ok (.iload_n 1, 1) := by decide +kernel
theorem dX6_drawn_1 : decode cX6_drawn 1 = .ok (.iconst 1, 1) := by decide +kernel
theorem dX6_drawn_2 : decode cX6_drawn 2 = .ok (.if_icmp .lt 9, 3) := by decide +kernel
theorem dX6_drawn_5 : decode cX6_drawn 5 = .ok (.iload_n 1, 1) := by decide +kernel
theorem dX6_drawn_6 : decode cX6_drawn 6 = .ok (.bipush 20, 2) := by decide +kernel
theorem dX6_drawn_8 : decode cX6_drawn 8 = .ok (.if_icmp .le 6, 3) := by decide +kernel
theorem dX6_drawn_11 : decode cX6_drawn 11 = .ok (.bipush (-2), 2) := by decide +kernel
theorem dX6_drawn_13 : decode cX6_drawn 13 = .ok (.ireturn, 1) := by decide +kernel
theorem dX6_drawn_14 : decode cX6_drawn 14 = .ok (.iconst 0, 1) := by decide +kernel
theorem dX6_drawn_15 : decode cX6_drawn 15 = .ok (.istore_n 2, 1) := by decide +kernel
theorem dX6_drawn_16 : decode cX6_drawn 16 = .ok (.iconst 0, 1) := by decide +kernel
theorem dX6_drawn_17 : decode cX6_drawn 17 = .ok (.istore_n 3, 1) := by decide +kernel
theorem dX6_drawn_18 : decode cX6_drawn 18 = .ok (.iload_n 3, 1) := by decide +kernel
theorem dX6_drawn_19 : decode cX6_drawn 19 = .ok (.iload_n 1, 1) := by decide +kernel
theorem dX6_drawn_20 : decode cX6_drawn 20 = .ok (.if_icmp .ge 64, 3) := by decide +kernel
theorem dX6_drawn_23 : decode cX6_drawn 23 = .ok (.aload_n 0, 1) := by decide +kernel
theorem dX6_drawn_24 : decode cX6_drawn 24 = .ok (.aload_n 0, 1) := by decide +kernel
theorem dX6_drawn_25 : decode cX6_drawn 25 = .ok (.getfield 57, 3) := by decide +kernel
theorem dX6_drawn_28 : decode cX6_drawn 28 = .ok (.ldc2_w 237, 3) := by decide +kernel
theorem dX6_drawn_31 : decode cX6_drawn 31 = .ok (.lmul, 1) := by decide +kernel
theorem dX6_drawn_32 : decode cX6_drawn 32 = .ok (.ldc2_w 239, 3) := by decide +kernel
theorem dX6_drawn_35 : decode cX6_drawn 35 = .ok (.ladd, 1) := by decide +kernel
theorem dX6_drawn_36 : decode cX6_drawn 36 = .ok (.putfield 57, 3) := by decide +kernel
theorem dX6_drawn_39 : decode cX6_drawn 39 = .ok (.aload_n 0, 1) := by decide +kernel
theorem dX6_drawn_40 : decode cX6_drawn 40 = .ok (.getfield 57, 3) := by decide +kernel
theorem dX6_drawn_43 : decode cX6_drawn 43 = .ok (.bipush 33, 2) := by decide +kernel
theorem dX6_drawn_45 : decode cX6_drawn 45 = .ok (.lushr, 1) := by decide +kernel
theorem dX6_drawn_46 : decode cX6_drawn 46 = .ok (.l2i, 1) := by decide +kernel
theorem dX6_drawn_47 : decode cX6_drawn 47 = .ok (.istore 4, 2) := by decide +kernel
theorem dX6_drawn_49 : decode cX6_drawn 49 = .ok (.iload 4, 2) := by decide +kernel
theorem dX6_drawn_51 : decode cX6_drawn 51 = .ok (.invokestatic 241, 3) := by decide +kernel
theorem dX6_drawn_54 : decode cX6_drawn 54 = .ok (.istore 5, 2) := by decide +kernel
theorem dX6_drawn_56 : decode cX6_drawn 56 = .ok (.iload_n 2, 1) := by decide +kernel
theorem dX6_drawn_57 : decode cX6_drawn 57 = .ok (.aload_n 0, 1) := by decide +kernel
theorem dX6_drawn_58 : decode cX6_drawn 58 = .ok (.getfield 28, 3) := by decide +kernel
theorem dX6_drawn_61 : decode cX6_drawn 61 = .ok (.iload 5, 2) := by decide +kernel
theorem dX6_drawn_63 : decode cX6_drawn 63 = .ok (.aload_n 0, 1) := by decide +kernel
theorem dX6_drawn_64 : decode cX6_drawn 64 = .ok (.getfield 28, 3) := by decide +kernel
theorem dX6_drawn_67 : decode cX6_drawn 67 = .ok (.getfield 97, 3) := by decide +kernel
theorem dX6_drawn_70 : decode cX6_drawn 70 = .ok (.invokevirtual 154, 3) := by decide +kernel
theorem dX6_drawn_73 : decode cX6_drawn 73 = .ok (.invokestatic 244, 3) := by decide +kernel
theorem dX6_drawn_76 : decode cX6_drawn 76 = .ok (.iadd, 1) := by decide +kernel
theorem dX6_drawn_77 : decode cX6_drawn 77 = .ok (.istore_n 2, 1) := by decide +kernel
theorem dX6_drawn_78 : decode cX6_drawn 78 = .ok (.iinc 3 1, 3) := by decide +kernel
theorem dX6_drawn_81 : decode cX6_drawn 81 = .ok (.goto (-63), 3) := by decide +kernel
theorem dX6_drawn_84 : decode cX6_drawn 84 = .ok (.iload_n 2, 1) := by decide +kernel
theorem dX6_drawn_85 : decode cX6_drawn 85 = .ok (.ireturn, 1) := by decide +kernel
theorem dX6_keep_0 : decode cX6_keep 0 = .ok (.iload_n 1, 1) := by decide +kernel
theorem dX6_keep_1 : decode cX6_keep 1 = .ok (.invokestatic 247, 3) := by decide +kernel
theorem dX6_keep_4 : decode cX6_keep 4 = .ok (.ifCond .ne 5, 3) := by decide +kernel
theorem dX6_keep_7 : decode cX6_keep 7 = .ok (.iconst (-1), 1) := by decide +kernel
theorem dX6_keep_8 : decode cX6_keep 8 = .ok (.ireturn, 1) := by decide +kernel
theorem dX6_keep_9 : decode cX6_keep 9 = .ok (.aload_n 0, 1) := by decide +kernel
theorem dX6_keep_10 : decode cX6_keep 10 = .ok (.getfield 35, 3) := by decide +kernel
theorem dX6_keep_13 : decode cX6_keep 13 = .ok (.iload_n 1, 1) := by decide +kernel
theorem dX6_keep_14 : decode cX6_keep 14 = .ok (.aaload, 1) := by decide +kernel
theorem dX6_keep_15 : decode cX6_keep 15 = .ok (.aload_n 0, 1) := by decide +kernel
theorem dX6_keep_16 : decode cX6_keep 16 = .ok (.getfield 28, 3) := by decide +kernel
theorem dX6_keep_19 : decode cX6_keep 19 = .ok (.invokevirtual 190, 3) := by decide +kernel
theorem dX6_keep_22 : decode cX6_keep 22 = .ok (.aload_n 0, 1) := by decide +kernel
theorem dX6_keep_23 : decode cX6_keep 23 = .ok (.getfield 39, 3) := by decide +kernel
theorem dX6_keep_26 : decode cX6_keep 26 = .ok (.iload_n 1, 1) := by decide +kernel
theorem dX6_keep_27 : decode cX6_keep 27 = .ok (.iconst 1, 1) := by decide +kernel
theorem dX6_keep_28 : decode cX6_keep 28 = .ok (.bastore, 1) := by decide +kernel
theorem dX6_keep_29 : decode cX6_keep 29 = .ok (.aload_n 0, 1) := by decide +kernel
theorem dX6_keep_30 : decode cX6_keep 30 = .ok (.getfield 28, 3) := by decide +kernel
theorem dX6_keep_33 : decode cX6_keep 33 = .ok (.invokevirtual 114, 3) := by decide +kernel
theorem dX6_keep_36 : decode cX6_keep 36 = .ok (.ireturn, 1) := by decide +kernel
theorem dX6_again_0 : decode cX6_again 0 = .ok (.iload_n 1, 1) := by decide +kernel
theorem dX6_again_1 : decode cX6_again 1 = .ok (.invokestatic 247, 3) := by decide +kernel
theorem dX6_again_4 : decode cX6_again 4 = .ok (.ifCond .ne 5, 3) := by decide +kernel
theorem dX6_again_7 : decode cX6_again 7 = .ok (.iconst (-1), 1) := by decide +kernel
theorem dX6_again_8 : decode cX6_again 8 = .ok (.ireturn, 1) := by decide +kernel
theorem dX6_again_9 : decode cX6_again 9 = .ok (.aload_n 0, 1) := by decide +kernel
theorem dX6_again_10 : decode cX6_again 10 = .ok (.getfield 39, 3) := by decide +kernel
theorem dX6_again_13 : decode cX6_again 13 = .ok (.iload_n 1, 1) := by decide +kernel
theorem dX6_again_14 : decode cX6_again 14 = .ok (.baload, 1) := by decide +kernel
theorem dX6_again_15 : decode cX6_again 15 = .ok (.ifCond .ne 6, 3) := by decide +kernel
theorem dX6_again_18 : decode cX6_again 18 = .ok (.bipush (-3), 2) := by decide +kernel
theorem dX6_again_20 : decode cX6_again 20 = .ok (.ireturn, 1) := by decide +kernel
theorem dX6_again_21 : decode cX6_again 21 = .ok (.aload_n 0, 1) := by decide +kernel
theorem dX6_again_22 : decode cX6_again 22 = .ok (.getfield 28, 3) := by decide +kernel
theorem dX6_again_25 : decode cX6_again 25 = .ok (.aload_n 0, 1) := by decide +kernel
theorem dX6_again_26 : decode cX6_again 26 = .ok (.getfield 35, 3) := by decide +kernel
theorem dX6_again_29 : decode cX6_again 29 = .ok (.iload_n 1, 1) := by decide +kernel
theorem dX6_again_30 : decode cX6_again 30 = .ok (.aaload, 1) := by decide +kernel
theorem dX6_again_31 : decode cX6_again 31 = .ok (.invokevirtual 190, 3) := by decide +kernel
theorem dX6_again_34 : decode cX6_again 34 = .ok (.aload_n 0, 1) := by decide +kernel
theorem dX6_again_35 : decode cX6_again 35 = .ok (.getfield 46, 3) := by decide +kernel
theorem dX6_again_38 : decode cX6_again 38 = .ok (.iconst 0, 1) := by decide +kernel
theorem dX6_again_39 : decode cX6_again 39 = .ok (.putfield 85, 3) := by decide +kernel
theorem dX6_again_42 : decode cX6_again 42 = .ok (.aload_n 0, 1) := by decide +kernel
theorem dX6_again_43 : decode cX6_again 43 = .ok (.getfield 28, 3) := by decide +kernel
theorem dX6_again_46 : decode cX6_again 46 = .ok (.invokevirtual 114, 3) := by decide +kernel
theorem dX6_again_49 : decode cX6_again 49 = .ok (.ireturn, 1) := by decide +kernel
theorem dX6_isSlot_0 : decode cX6_isSlot 0 = .ok (.iload_n 0, 1) := by decide +kernel
theorem dX6_isSlot_1 : decode cX6_isSlot 1 = .ok (.ifCond .lt 12, 3) := by decide +kernel
theorem dX6_isSlot_4 : decode cX6_isSlot 4 = .ok (.iload_n 0, 1) := by decide +kernel
theorem dX6_isSlot_5 : decode cX6_isSlot 5 = .ok (.iconst 2, 1) := by decide +kernel
theorem dX6_isSlot_6 : decode cX6_isSlot 6 = .ok (.if_icmp .ge 7, 3) := by decide +kernel
theorem dX6_isSlot_9 : decode cX6_isSlot 9 = .ok (.iconst 1, 1) := by decide +kernel
theorem dX6_isSlot_10 : decode cX6_isSlot 10 = .ok (.goto 4, 3) := by decide +kernel
theorem dX6_isSlot_13 : decode cX6_isSlot 13 = .ok (.iconst 0, 1) := by decide +kernel
theorem dX6_isSlot_14 : decode cX6_isSlot 14 = .ok (.ireturn, 1) := by decide +kernel
theorem dX6_isSignPlace_0 : decode cX6_isSignPlace 0 = .ok (.iload_n 0, 1) := by decide +kernel
theorem dX6_isSignPlace_1 : decode cX6_isSignPlace 1 = .ok (.ifCond .lt 12, 3) := by decide +kernel
theorem dX6_isSignPlace_4 : decode cX6_isSignPlace 4 = .ok (.iload_n 0, 1) := by decide +kernel
theorem dX6_isSignPlace_5 : decode cX6_isSignPlace 5 = .ok (.iconst 4, 1) := by decide +kernel
theorem dX6_isSignPlace_6 : decode cX6_isSignPlace 6 = .ok (.if_icmp .ge 7, 3) := by decide +kernel
theorem dX6_isSignPlace_9 : decode cX6_isSignPlace 9 = .ok (.iconst 1, 1) := by decide +kernel
theorem dX6_isSignPlace_10 : decode cX6_isSignPlace 10 = .ok (.goto 4, 3) := by decide +kernel
theorem dX6_isSignPlace_13 : decode cX6_isSignPlace 13 = .ok (.iconst 0, 1) := by decide +kernel
theorem dX6_isSignPlace_14 : decode cX6_isSignPlace 14 = .ok (.ireturn, 1) := by decide +kernel
theorem dX6_allowsSign_0 : decode cX6_allowsSign 0 = .ok (.iload_n 0, 1) := by decide +kernel
theorem dX6_allowsSign_1 : decode cX6_allowsSign 1 = .ok (.tableswitch 79 0 3 #[31, 47, 62, 62], 31) := by decide +kernel
theorem dX6_allowsSign_32 : decode cX6_allowsSign 32 = .ok (.iload_n 1, 1) := by decide +kernel
theorem dX6_allowsSign_33 : decode cX6_allowsSign 33 = .ok (.iconst 1, 1) := by decide +kernel
theorem dX6_allowsSign_34 : decode cX6_allowsSign 34 = .ok (.if_icmp .lt 12, 3) := by decide +kernel
theorem dX6_allowsSign_37 : decode cX6_allowsSign 37 = .ok (.iload_n 1, 1) := by decide +kernel
theorem dX6_allowsSign_38 : decode cX6_allowsSign 38 = .ok (.iconst 5, 1) := by decide +kernel
theorem dX6_allowsSign_39 : decode cX6_allowsSign 39 = .ok (.if_icmp .gt 7, 3) := by decide +kernel
theorem dX6_allowsSign_42 : decode cX6_allowsSign 42 = .ok (.iconst 1, 1) := by decide +kernel
theorem dX6_allowsSign_43 : decode cX6_allowsSign 43 = .ok (.goto 4, 3) := by decide +kernel
theorem dX6_allowsSign_46 : decode cX6_allowsSign 46 = .ok (.iconst 0, 1) := by decide +kernel
theorem dX6_allowsSign_47 : decode cX6_allowsSign 47 = .ok (.ireturn, 1) := by decide +kernel
theorem dX6_allowsSign_48 : decode cX6_allowsSign 48 = .ok (.iload_n 1, 1) := by decide +kernel
theorem dX6_allowsSign_49 : decode cX6_allowsSign 49 = .ok (.ifCond .lt 12, 3) := by decide +kernel
theorem dX6_allowsSign_52 : decode cX6_allowsSign 52 = .ok (.iload_n 1, 1) := by decide +kernel
theorem dX6_allowsSign_53 : decode cX6_allowsSign 53 = .ok (.iconst 5, 1) := by decide +kernel
theorem dX6_allowsSign_54 : decode cX6_allowsSign 54 = .ok (.if_icmp .gt 7, 3) := by decide +kernel
theorem dX6_allowsSign_57 : decode cX6_allowsSign 57 = .ok (.iconst 1, 1) := by decide +kernel
theorem dX6_allowsSign_58 : decode cX6_allowsSign 58 = .ok (.goto 4, 3) := by decide +kernel
theorem dX6_allowsSign_61 : decode cX6_allowsSign 61 = .ok (.iconst 0, 1) := by decide +kernel
theorem dX6_allowsSign_62 : decode cX6_allowsSign 62 = .ok (.ireturn, 1) := by decide +kernel
theorem dX6_allowsSign_63 : decode cX6_allowsSign 63 = .ok (.iload_n 1, 1) := by decide +kernel
theorem dX6_allowsSign_64 : decode cX6_allowsSign 64 = .ok (.iconst 1, 1) := by decide +kernel
theorem dX6_allowsSign_65 : decode cX6_allowsSign 65 = .ok (.if_icmp .lt 13, 3) := by decide +kernel
theorem dX6_allowsSign_68 : decode cX6_allowsSign 68 = .ok (.iload_n 1, 1) := by decide +kernel
theorem dX6_allowsSign_69 : decode cX6_allowsSign 69 = .ok (.bipush 7, 2) := by decide +kernel
theorem dX6_allowsSign_71 : decode cX6_allowsSign 71 = .ok (.if_icmp .gt 7, 3) := by decide +kernel
theorem dX6_allowsSign_74 : decode cX6_allowsSign 74 = .ok (.iconst 1, 1) := by decide +kernel
theorem dX6_allowsSign_75 : decode cX6_allowsSign 75 = .ok (.goto 4, 3) := by decide +kernel
theorem dX6_allowsSign_78 : decode cX6_allowsSign 78 = .ok (.iconst 0, 1) := by decide +kernel
theorem dX6_allowsSign_79 : decode cX6_allowsSign 79 = .ok (.ireturn, 1) := by decide +kernel
theorem dX6_allowsSign_80 : decode cX6_allowsSign 80 = .ok (.iconst 0, 1) := by decide +kernel
theorem dX6_allowsSign_81 : decode cX6_allowsSign 81 = .ok (.ireturn, 1) := by decide +kernel
theorem dX6_withoutLastFours_0 : decode cX6_withoutLastFours 0 = .ok (.lload_n 0, 1) := by decide +kernel
theorem dX6_withoutLastFours_1 : decode cX6_withoutLastFours 1 = .ok (.lstore_n 3, 1) := by decide +kernel
theorem dX6_withoutLastFours_2 : decode cX6_withoutLastFours 2 = .ok (.iconst 0, 1) := by decide +kernel
theorem dX6_withoutLastFours_3 : decode cX6_withoutLastFours 3 = .ok (.istore 5, 2) := by decide +kernel
theorem dX6_withoutLastFours_5 : decode cX6_withoutLastFours 5 = .ok (.iload 5, 2) := by decide +kernel
theorem dX6_withoutLastFours_7 : decode cX6_withoutLastFours 7 = .ok (.iload_n 2, 1) := by decide +kernel
theorem dX6_withoutLastFours_8 : decode cX6_withoutLastFours 8 = .ok (.if_icmp .ge 15, 3) := by decide +kernel
theorem dX6_withoutLastFours_11 : decode cX6_withoutLastFours 11 = .ok (.lload_n 3, 1) := by decide +kernel
theorem dX6_withoutLastFours_12 : decode cX6_withoutLastFours 12 = .ok (.ldc2_w 206, 3) := by decide +kernel
theorem dX6_withoutLastFours_15 : decode cX6_withoutLastFours 15 = .ok (.ldiv, 1) := by decide +kernel
theorem dX6_withoutLastFours_16 : decode cX6_withoutLastFours 16 = .ok (.lstore_n 3, 1) := by decide +kernel
theorem dX6_withoutLastFours_17 : decode cX6_withoutLastFours 17 = .ok (.iinc 5 1, 3) := by decide +kernel
theorem dX6_withoutLastFours_20 : decode cX6_withoutLastFours 20 = .ok (.goto (-15), 3) := by decide +kernel
theorem dX6_withoutLastFours_23 : decode cX6_withoutLastFours 23 = .ok (.lload_n 3, 1) := by decide +kernel
theorem dX6_withoutLastFours_24 : decode cX6_withoutLastFours 24 = .ok (.lreturn, 1) := by decide +kernel
theorem dX6_canBe_0 : decode cX6_canBe 0 = .ok (.iload_n 1, 1) := by decide +kernel
theorem dX6_canBe_1 : decode cX6_canBe 1 = .ok (.tableswitch 215 1 6 #[39, 59, 68, 103, 149, 189], 39) := by decide +kernel
theorem dX6_canBe_40 : decode cX6_canBe 40 = .ok (.iload_n 2, 1) := by decide +kernel
theorem dX6_canBe_41 : decode cX6_canBe 41 = .ok (.ifCond .ne 17, 3) := by decide +kernel
theorem dX6_canBe_44 : decode cX6_canBe 44 = .ok (.aload_n 0, 1) := by decide +kernel
theorem dX6_canBe_45 : decode cX6_canBe 45 = .ok (.iload_n 3, 1) := by decide +kernel
theorem dX6_canBe_46 : decode cX6_canBe 46 = .ok (.iload 4, 2) := by decide +kernel
theorem dX6_canBe_48 : decode cX6_canBe 48 = .ok (.invokevirtual 250, 3) := by decide +kernel
theorem dX6_canBe_51 : decode cX6_canBe 51 = .ok (.ifCond .eq 7, 3) := by decide +kernel
theorem dX6_canBe_54 : decode cX6_canBe 54 = .ok (.iconst 1, 1) := by decide +kernel
theorem dX6_canBe_55 : decode cX6_canBe 55 = .ok (.goto 4, 3) := by decide +kernel
theorem dX6_canBe_58 : decode cX6_canBe 58 = .ok (.iconst 0, 1) := by decide +kernel
theorem dX6_canBe_59 : decode cX6_canBe 59 = .ok (.ireturn, 1) := by decide +kernel
theorem dX6_canBe_60 : decode cX6_canBe 60 = .ok (.aload_n 0, 1) := by decide +kernel
theorem dX6_canBe_61 : decode cX6_canBe 61 = .ok (.iload_n 2, 1) := by decide +kernel
theorem dX6_canBe_62 : decode cX6_canBe 62 = .ok (.iload_n 3, 1) := by decide +kernel
theorem dX6_canBe_63 : decode cX6_canBe 63 = .ok (.iload 4, 2) := by decide +kernel
theorem dX6_canBe_65 : decode cX6_canBe 65 = .ok (.invokevirtual 253, 3) := by decide +kernel
theorem dX6_canBe_68 : decode cX6_canBe 68 = .ok (.ireturn, 1) := by decide +kernel
theorem dX6_canBe_69 : decode cX6_canBe 69 = .ok (.aload_n 0, 1) := by decide +kernel
theorem dX6_canBe_70 : decode cX6_canBe 70 = .ok (.getfield 19, 3) := by decide +kernel
theorem dX6_canBe_73 : decode cX6_canBe 73 = .ok (.iload_n 2, 1) := by decide +kernel
theorem dX6_canBe_74 : decode cX6_canBe 74 = .ok (.iload_n 3, 1) := by decide +kernel
theorem dX6_canBe_75 : decode cX6_canBe 75 = .ok (.invokevirtual 144, 3) := by decide +kernel
theorem dX6_canBe_78 : decode cX6_canBe 78 = .ok (.ifCond .eq 24, 3) := by decide +kernel
theorem dX6_canBe_81 : decode cX6_canBe 81 = .ok (.aload_n 0, 1) := by decide +kernel
theorem dX6_canBe_82 : decode cX6_canBe 82 = .ok (.getfield 32, 3) := by decide +kernel
theorem dX6_canBe_85 : decode cX6_canBe 85 = .ok (.iload_n 2, 1) := by decide +kernel
theorem dX6_canBe_86 : decode cX6_canBe 86 = .ok (.iload_n 3, 1) := by decide +kernel
theorem dX6_canBe_87 : decode cX6_canBe 87 = .ok (.invokevirtual 148, 3) := by decide +kernel
theorem dX6_canBe_90 : decode cX6_canBe 90 = .ok (.invokestatic 244, 3) := by decide +kernel
theorem dX6_canBe_93 : decode cX6_canBe 93 = .ok (.iload 4, 2) := by decide +kernel
theorem dX6_canBe_95 : decode cX6_canBe 95 = .ok (.if_icmp .ne 7, 3) := by decide +kernel
theorem dX6_canBe_98 : decode cX6_canBe 98 = .ok (.iconst 1, 1) := by decide +kernel
theorem dX6_canBe_99 : decode cX6_canBe 99 = .ok (.goto 4, 3) := by decide +kernel
theorem dX6_canBe_102 : decode cX6_canBe 102 = .ok (.iconst 0, 1) := by decide +kernel
theorem dX6_canBe_103 : decode cX6_canBe 103 = .ok (.ireturn, 1) := by decide +kernel
theorem dX6_canBe_104 : decode cX6_canBe 104 = .ok (.iload_n 2, 1) := by decide +kernel
theorem dX6_canBe_105 : decode cX6_canBe 105 = .ok (.ifCond .ne 43, 3) := by decide +kernel
theorem dX6_canBe_108 : decode cX6_canBe 108 = .ok (.aload_n 0, 1) := by decide +kernel
theorem dX6_canBe_109 : decode cX6_canBe 109 = .ok (.getfield 32, 3) := by decide +kernel
theorem dX6_canBe_112 : decode cX6_canBe 112 = .ok (.iload_n 3, 1) := by decide +kernel
theorem dX6_canBe_113 : decode cX6_canBe 113 = .ok (.invokevirtual 131, 3) := by decide +kernel
theorem dX6_canBe_116 : decode cX6_canBe 116 = .ok (.ifCond .eq 32, 3) := by decide +kernel
theorem dX6_canBe_119 : decode cX6_canBe 119 = .ok (.aload_n 0, 1) := by decide +kernel
theorem dX6_canBe_120 : decode cX6_canBe 120 = .ok (.getfield 32, 3) := by decide +kernel
theorem dX6_canBe_123 : decode cX6_canBe 123 = .ok (.iload 4, 2) := by decide +kernel
theorem dX6_canBe_125 : decode cX6_canBe 125 = .ok (.invokevirtual 131, 3) := by decide +kernel
theorem dX6_canBe_128 : decode cX6_canBe 128 = .ok (.ifCond .eq 20, 3) := by decide +kernel
theorem dX6_canBe_131 : decode cX6_canBe 131 = .ok (.aload_n 0, 1) := by decide +kernel
theorem dX6_canBe_132 : decode cX6_canBe 132 = .ok (.getfield 32, 3) := by decide +kernel
theorem dX6_canBe_135 : decode cX6_canBe 135 = .ok (.iload_n 3, 1) := by decide +kernel
theorem dX6_canBe_136 : decode cX6_canBe 136 = .ok (.iload 4, 2) := by decide +kernel
theorem dX6_canBe_138 : decode cX6_canBe 138 = .ok (.invokevirtual 187, 3) := by decide +kernel
theorem dX6_canBe_141 : decode cX6_canBe 141 = .ok (.ifCond .eq 7, 3) := by decide +kernel
theorem dX6_canBe_144 : decode cX6_canBe 144 = .ok (.iconst 1, 1) := by decide +kernel
theorem dX6_canBe_145 : decode cX6_canBe 145 = .ok (.goto 4, 3) := by decide +kernel
theorem dX6_canBe_148 : decode cX6_canBe 148 = .ok (.iconst 0, 1) := by decide +kernel
theorem dX6_canBe_149 : decode cX6_canBe 149 = .ok (.ireturn, 1) := by decide +kernel
theorem dX6_canBe_150 : decode cX6_canBe 150 = .ok (.aload_n 0, 1) := by decide +kernel
theorem dX6_canBe_151 : decode cX6_canBe 151 = .ok (.getfield 32, 3) := by decide +kernel
theorem dX6_canBe_154 : decode cX6_canBe 154 = .ok (.iload_n 2, 1) := by decide +kernel
theorem dX6_canBe_155 : decode cX6_canBe 155 = .ok (.invokevirtual 131, 3) := by decide +kernel
theorem dX6_canBe_158 : decode cX6_canBe 158 = .ok (.ifCond .eq 30, 3) := by decide +kernel
theorem dX6_canBe_161 : decode cX6_canBe 161 = .ok (.iload_n 3, 1) := by decide +kernel
theorem dX6_canBe_162 : decode cX6_canBe 162 = .ok (.ifCond .ne 26, 3) := by decide +kernel
theorem dX6_canBe_165 : decode cX6_canBe 165 = .ok (.iload 4, 2) := by decide +kernel
theorem dX6_canBe_167 : decode cX6_canBe 167 = .ok (.ifCond .ne 21, 3) := by decide +kernel
theorem dX6_canBe_170 : decode cX6_canBe 170 = .ok (.aload_n 0, 1) := by decide +kernel
theorem dX6_canBe_171 : decode cX6_canBe 171 = .ok (.getfield 32, 3) := by decide +kernel
theorem dX6_canBe_174 : decode cX6_canBe 174 = .ok (.invokevirtual 108, 3) := by decide +kernel
theorem dX6_canBe_177 : decode cX6_canBe 177 = .ok (.iconst 1, 1) := by decide +kernel
theorem dX6_canBe_178 : decode cX6_canBe 178 = .ok (.iload_n 2, 1) := by decide +kernel
theorem dX6_canBe_179 : decode cX6_canBe 179 = .ok (.ishl, 1) := by decide +kernel
theorem dX6_canBe_180 : decode cX6_canBe 180 = .ok (.iand, 1) := by decide +kernel
theorem dX6_canBe_181 : decode cX6_canBe 181 = .ok (.ifCond .eq 7, 3) := by decide +kernel
theorem dX6_canBe_184 : decode cX6_canBe 184 = .ok (.iconst 1, 1) := by decide +kernel
theorem dX6_canBe_185 : decode cX6_canBe 185 = .ok (.goto 4, 3) := by decide +kernel
theorem dX6_canBe_188 : decode cX6_canBe 188 = .ok (.iconst 0, 1) := by decide +kernel
theorem dX6_canBe_189 : decode cX6_canBe 189 = .ok (.ireturn, 1) := by decide +kernel
theorem dX6_canBe_190 : decode cX6_canBe 190 = .ok (.iload_n 2, 1) := by decide +kernel
theorem dX6_canBe_191 : decode cX6_canBe 191 = .ok (.ifCond .ne 23, 3) := by decide +kernel
theorem dX6_canBe_194 : decode cX6_canBe 194 = .ok (.iload_n 3, 1) := by decide +kernel
theorem dX6_canBe_195 : decode cX6_canBe 195 = .ok (.ifCond .ne 19, 3) := by decide +kernel
theorem dX6_canBe_198 : decode cX6_canBe 198 = .ok (.aload_n 0, 1) := by decide +kernel
theorem dX6_canBe_199 : decode cX6_canBe 199 = .ok (.getfield 32, 3) := by decide +kernel
theorem dX6_canBe_202 : decode cX6_canBe 202 = .ok (.invokevirtual 111, 3) := by decide +kernel
theorem dX6_canBe_205 : decode cX6_canBe 205 = .ok (.iload 4, 2) := by decide +kernel
theorem dX6_canBe_207 : decode cX6_canBe 207 = .ok (.if_icmp .gt 7, 3) := by decide +kernel
theorem dX6_canBe_210 : decode cX6_canBe 210 = .ok (.iconst 1, 1) := by decide +kernel
theorem dX6_canBe_211 : decode cX6_canBe 211 = .ok (.goto 4, 3) := by decide +kernel
theorem dX6_canBe_214 : decode cX6_canBe 214 = .ok (.iconst 0, 1) := by decide +kernel
theorem dX6_canBe_215 : decode cX6_canBe 215 = .ok (.ireturn, 1) := by decide +kernel
theorem dX6_canBe_216 : decode cX6_canBe 216 = .ok (.iconst 0, 1) := by decide +kernel
theorem dX6_canBe_217 : decode cX6_canBe 217 = .ok (.ireturn, 1) := by decide +kernel
theorem dX6_canSwap_0 : decode cX6_canSwap 0 = .ok (.aload_n 0, 1) := by decide +kernel
theorem dX6_canSwap_1 : decode cX6_canSwap 1 = .ok (.getfield 32, 3) := by decide +kernel
theorem dX6_canSwap_4 : decode cX6_canSwap 4 = .ok (.iload_n 1, 1) := by decide +kernel
theorem dX6_canSwap_5 : decode cX6_canSwap 5 = .ok (.invokevirtual 131, 3) := by decide +kernel
theorem dX6_canSwap_8 : decode cX6_canSwap 8 = .ok (.ifCond .eq 14, 3) := by decide +kernel
theorem dX6_canSwap_11 : decode cX6_canSwap 11 = .ok (.aload_n 0, 1) := by decide +kernel
theorem dX6_canSwap_12 : decode cX6_canSwap 12 = .ok (.getfield 32, 3) := by decide +kernel
theorem dX6_canSwap_15 : decode cX6_canSwap 15 = .ok (.iload_n 2, 1) := by decide +kernel
theorem dX6_canSwap_16 : decode cX6_canSwap 16 = .ok (.invokevirtual 131, 3) := by decide +kernel
theorem dX6_canSwap_19 : decode cX6_canSwap 19 = .ok (.ifCond .ne 5, 3) := by decide +kernel
theorem dX6_canSwap_22 : decode cX6_canSwap 22 = .ok (.iconst 0, 1) := by decide +kernel
theorem dX6_canSwap_23 : decode cX6_canSwap 23 = .ok (.ireturn, 1) := by decide +kernel
theorem dX6_canSwap_24 : decode cX6_canSwap 24 = .ok (.aload_n 0, 1) := by decide +kernel
theorem dX6_canSwap_25 : decode cX6_canSwap 25 = .ok (.getfield 32, 3) := by decide +kernel
theorem dX6_canSwap_28 : decode cX6_canSwap 28 = .ok (.iload_n 1, 1) := by decide +kernel
theorem dX6_canSwap_29 : decode cX6_canSwap 29 = .ok (.iload_n 2, 1) := by decide +kernel
theorem dX6_canSwap_30 : decode cX6_canSwap 30 = .ok (.invokevirtual 165, 3) := by decide +kernel
theorem dX6_canSwap_33 : decode cX6_canSwap 33 = .ok (.iconst 1, 1) := by decide +kernel
theorem dX6_canSwap_34 : decode cX6_canSwap 34 = .ok (.ireturn, 1) := by decide +kernel
theorem dX6_canSign_0 : decode cX6_canSign 0 = .ok (.aload_n 0, 1) := by decide +kernel
theorem dX6_canSign_1 : decode cX6_canSign 1 = .ok (.getfield 32, 3) := by decide +kernel
theorem dX6_canSign_4 : decode cX6_canSign 4 = .ok (.iload_n 1, 1) := by decide +kernel
theorem dX6_canSign_5 : decode cX6_canSign 5 = .ok (.invokevirtual 131, 3) := by decide +kernel
theorem dX6_canSign_8 : decode cX6_canSign 8 = .ok (.ifCond .eq 11, 3) := by decide +kernel
theorem dX6_canSign_11 : decode cX6_canSign 11 = .ok (.iload_n 2, 1) := by decide +kernel
theorem dX6_canSign_12 : decode cX6_canSign 12 = .ok (.iload_n 3, 1) := by decide +kernel
theorem dX6_canSign_13 : decode cX6_canSign 13 = .ok (.invokestatic 173, 3) := by decide +kernel
theorem dX6_canSign_16 : decode cX6_canSign 16 = .ok (.ifCond .ne 5, 3) := by decide +kernel
theorem dX6_canSign_19 : decode cX6_canSign 19 = .ok (.iconst 0, 1) := by decide +kernel
theorem dX6_canSign_20 : decode cX6_canSign 20 = .ok (.ireturn, 1) := by decide +kernel
theorem dX6_canSign_21 : decode cX6_canSign 21 = .ok (.aload_n 0, 1) := by decide +kernel
theorem dX6_canSign_22 : decode cX6_canSign 22 = .ok (.getfield 32, 3) := by decide +kernel
theorem dX6_canSign_25 : decode cX6_canSign 25 = .ok (.iload_n 1, 1) := by decide +kernel
theorem dX6_canSign_26 : decode cX6_canSign 26 = .ok (.iload_n 2, 1) := by decide +kernel
theorem dX6_canSign_27 : decode cX6_canSign 27 = .ok (.iload_n 3, 1) := by decide +kernel
theorem dX6_canSign_28 : decode cX6_canSign 28 = .ok (.invokevirtual 176, 3) := by decide +kernel
theorem dX6_canSign_31 : decode cX6_canSign 31 = .ok (.iconst 1, 1) := by decide +kernel
theorem dX6_canSign_32 : decode cX6_canSign 32 = .ok (.ireturn, 1) := by decide +kernel
theorem dX6_rootDrawnFrom_0 : decode cX6_rootDrawnFrom 0 = .ok (.iload_n 0, 1) := by decide +kernel
theorem dX6_rootDrawnFrom_1 : decode cX6_rootDrawnFrom 1 = .ok (.iconst 5, 1) := by decide +kernel
theorem dX6_rootDrawnFrom_2 : decode cX6_rootDrawnFrom 2 = .ok (.irem, 1) := by decide +kernel
theorem dX6_rootDrawnFrom_3 : decode cX6_rootDrawnFrom 3 = .ok (.iconst 1, 1) := by decide +kernel
theorem dX6_rootDrawnFrom_4 : decode cX6_rootDrawnFrom 4 = .ok (.iadd, 1) := by decide +kernel
theorem dX6_rootDrawnFrom_5 : decode cX6_rootDrawnFrom 5 = .ok (.istore_n 1, 1) := by decide +kernel
theorem dX6_rootDrawnFrom_6 : decode cX6_rootDrawnFrom 6 = .ok (.iload_n 0, 1) := by decide +kernel
theorem dX6_rootDrawnFrom_7 : decode cX6_rootDrawnFrom 7 = .ok (.bipush 8, 2) := by decide +kernel
theorem dX6_rootDrawnFrom_9 : decode cX6_rootDrawnFrom 9 = .ok (.idiv, 1) := by decide +kernel
theorem dX6_rootDrawnFrom_10 : decode cX6_rootDrawnFrom 10 = .ok (.iconst 5, 1) := by decide +kernel
theorem dX6_rootDrawnFrom_11 : decode cX6_rootDrawnFrom 11 = .ok (.irem, 1) := by decide +kernel
theorem dX6_rootDrawnFrom_12 : decode cX6_rootDrawnFrom 12 = .ok (.iconst 1, 1) := by decide +kernel
theorem dX6_rootDrawnFrom_13 : decode cX6_rootDrawnFrom 13 = .ok (.iadd, 1) := by decide +kernel
theorem dX6_rootDrawnFrom_14 : decode cX6_rootDrawnFrom 14 = .ok (.istore_n 2, 1) := by decide +kernel
theorem dX6_rootDrawnFrom_15 : decode cX6_rootDrawnFrom 15 = .ok (.iload_n 0, 1) := by decide +kernel
theorem dX6_rootDrawnFrom_16 : decode cX6_rootDrawnFrom 16 = .ok (.bipush 64, 2) := by decide +kernel
theorem dX6_rootDrawnFrom_18 : decode cX6_rootDrawnFrom 18 = .ok (.idiv, 1) := by decide +kernel
theorem dX6_rootDrawnFrom_19 : decode cX6_rootDrawnFrom 19 = .ok (.iconst 5, 1) := by decide +kernel
theorem dX6_rootDrawnFrom_20 : decode cX6_rootDrawnFrom 20 = .ok (.irem, 1) := by decide +kernel
theorem dX6_rootDrawnFrom_21 : decode cX6_rootDrawnFrom 21 = .ok (.iconst 1, 1) := by decide +kernel
theorem dX6_rootDrawnFrom_22 : decode cX6_rootDrawnFrom 22 = .ok (.iadd, 1) := by decide +kernel
theorem dX6_rootDrawnFrom_23 : decode cX6_rootDrawnFrom 23 = .ok (.istore_n 3, 1) := by decide +kernel
theorem dX6_rootDrawnFrom_24 : decode cX6_rootDrawnFrom 24 = .ok (.iload_n 0, 1) := by decide +kernel
theorem dX6_rootDrawnFrom_25 : decode cX6_rootDrawnFrom 25 = .ok (.sipush 512, 3) := by decide +kernel
theorem dX6_rootDrawnFrom_28 : decode cX6_rootDrawnFrom 28 = .ok (.idiv, 1) := by decide +kernel
theorem dX6_rootDrawnFrom_29 : decode cX6_rootDrawnFrom 29 = .ok (.iconst 5, 1) := by decide +kernel
theorem dX6_rootDrawnFrom_30 : decode cX6_rootDrawnFrom 30 = .ok (.irem, 1) := by decide +kernel
theorem dX6_rootDrawnFrom_31 : decode cX6_rootDrawnFrom 31 = .ok (.iconst 1, 1) := by decide +kernel
theorem dX6_rootDrawnFrom_32 : decode cX6_rootDrawnFrom 32 = .ok (.iadd, 1) := by decide +kernel
theorem dX6_rootDrawnFrom_33 : decode cX6_rootDrawnFrom 33 = .ok (.istore 4, 2) := by decide +kernel
theorem dX6_rootDrawnFrom_35 : decode cX6_rootDrawnFrom 35 = .ok (.sipush 1000, 3) := by decide +kernel
theorem dX6_rootDrawnFrom_38 : decode cX6_rootDrawnFrom 38 = .ok (.iload_n 1, 1) := by decide +kernel
theorem dX6_rootDrawnFrom_39 : decode cX6_rootDrawnFrom 39 = .ok (.imul, 1) := by decide +kernel
theorem dX6_rootDrawnFrom_40 : decode cX6_rootDrawnFrom 40 = .ok (.bipush 100, 2) := by decide +kernel
theorem dX6_rootDrawnFrom_42 : decode cX6_rootDrawnFrom 42 = .ok (.iload_n 2, 1) := by decide +kernel
theorem dX6_rootDrawnFrom_43 : decode cX6_rootDrawnFrom 43 = .ok (.imul, 1) := by decide +kernel
theorem dX6_rootDrawnFrom_44 : decode cX6_rootDrawnFrom 44 = .ok (.iadd, 1) := by decide +kernel
theorem dX6_rootDrawnFrom_45 : decode cX6_rootDrawnFrom 45 = .ok (.bipush 10, 2) := by decide +kernel
theorem dX6_rootDrawnFrom_47 : decode cX6_rootDrawnFrom 47 = .ok (.iload_n 3, 1) := by decide +kernel
theorem dX6_rootDrawnFrom_48 : decode cX6_rootDrawnFrom 48 = .ok (.imul, 1) := by decide +kernel
theorem dX6_rootDrawnFrom_49 : decode cX6_rootDrawnFrom 49 = .ok (.iadd, 1) := by decide +kernel
theorem dX6_rootDrawnFrom_50 : decode cX6_rootDrawnFrom 50 = .ok (.iload 4, 2) := by decide +kernel
theorem dX6_rootDrawnFrom_52 : decode cX6_rootDrawnFrom 52 = .ok (.iadd, 1) := by decide +kernel
theorem dX6_rootDrawnFrom_53 : decode cX6_rootDrawnFrom 53 = .ok (.ireturn, 1) := by decide +kernel
theorem dX6_power_0 : decode cX6_power 0 = .ok (.iconst 1, 1) := by decide +kernel
theorem dX6_power_1 : decode cX6_power 1 = .ok (.istore_n 2, 1) := by decide +kernel
theorem dX6_power_2 : decode cX6_power 2 = .ok (.iconst 0, 1) := by decide +kernel
theorem dX6_power_3 : decode cX6_power 3 = .ok (.istore_n 3, 1) := by decide +kernel
theorem dX6_power_4 : decode cX6_power 4 = .ok (.iload_n 3, 1) := by decide +kernel
theorem dX6_power_5 : decode cX6_power 5 = .ok (.iload_n 1, 1) := by decide +kernel
theorem dX6_power_6 : decode cX6_power 6 = .ok (.if_icmp .ge 13, 3) := by decide +kernel
theorem dX6_power_9 : decode cX6_power 9 = .ok (.iload_n 2, 1) := by decide +kernel
theorem dX6_power_10 : decode cX6_power 10 = .ok (.iload_n 0, 1) := by decide +kernel
theorem dX6_power_11 : decode cX6_power 11 = .ok (.imul, 1) := by decide +kernel
theorem dX6_power_12 : decode cX6_power 12 = .ok (.istore_n 2, 1) := by decide +kernel
theorem dX6_power_13 : decode cX6_power 13 = .ok (.iinc 3 1, 3) := by decide +kernel
theorem dX6_power_16 : decode cX6_power 16 = .ok (.goto (-12), 3) := by decide +kernel
theorem dX6_power_19 : decode cX6_power 19 = .ok (.iload_n 2, 1) := by decide +kernel
theorem dX6_power_20 : decode cX6_power 20 = .ok (.ireturn, 1) := by decide +kernel
theorem dX6_fraction_0 : decode cX6_fraction 0 = .ok (.iload_n 0, 1) := by decide +kernel
theorem dX6_fraction_1 : decode cX6_fraction 1 = .ok (.invokestatic 257, 3) := by decide +kernel
theorem dX6_fraction_4 : decode cX6_fraction 4 = .ok (.iload_n 1, 1) := by decide +kernel
theorem dX6_fraction_5 : decode cX6_fraction 5 = .ok (.invokestatic 262, 3) := by decide +kernel
theorem dX6_fraction_8 : decode cX6_fraction 8 = .ok (.istore_n 3, 1) := by decide +kernel
theorem dX6_fraction_9 : decode cX6_fraction 9 = .ok (.iload_n 2, 1) := by decide +kernel
theorem dX6_fraction_10 : decode cX6_fraction 10 = .ok (.ifCond .eq 7, 3) := by decide +kernel
theorem dX6_fraction_13 : decode cX6_fraction 13 = .ok (.iload_n 0, 1) := by decide +kernel
theorem dX6_fraction_14 : decode cX6_fraction 14 = .ok (.goto 4, 3) := by decide +kernel
theorem dX6_fraction_17 : decode cX6_fraction 17 = .ok (.iload_n 1, 1) := by decide +kernel
theorem dX6_fraction_18 : decode cX6_fraction 18 = .ok (.istore 4, 2) := by decide +kernel
theorem dX6_fraction_20 : decode cX6_fraction 20 = .ok (.iload_n 3, 1) := by decide +kernel
theorem dX6_fraction_21 : decode cX6_fraction 21 = .ok (.iconst 1, 1) := by decide +kernel
theorem dX6_fraction_22 : decode cX6_fraction 22 = .ok (.if_icmp .le 10, 3) := by decide +kernel
theorem dX6_fraction_25 : decode cX6_fraction 25 = .ok (.iload 4, 2) := by decide +kernel
theorem dX6_fraction_27 : decode cX6_fraction 27 = .ok (.iload_n 3, 1) := by decide +kernel
theorem dX6_fraction_28 : decode cX6_fraction 28 = .ok (.idiv, 1) := by decide +kernel
theorem dX6_fraction_29 : decode cX6_fraction 29 = .ok (.goto 5, 3) := by decide +kernel
theorem dX6_fraction_32 : decode cX6_fraction 32 = .ok (.iload 4, 2) := by decide +kernel
theorem dX6_fraction_34 : decode cX6_fraction 34 = .ok (.ireturn, 1) := by decide +kernel
theorem dX6_sharedDivisor_0 : decode cX6_sharedDivisor 0 = .ok (.iload_n 0, 1) := by decide +kernel
theorem dX6_sharedDivisor_1 : decode cX6_sharedDivisor 1 = .ok (.istore_n 2, 1) := by decide +kernel
theorem dX6_sharedDivisor_2 : decode cX6_sharedDivisor 2 = .ok (.iload_n 1, 1) := by decide +kernel
theorem dX6_sharedDivisor_3 : decode cX6_sharedDivisor 3 = .ok (.istore_n 3, 1) := by decide +kernel
theorem dX6_sharedDivisor_4 : decode cX6_sharedDivisor 4 = .ok (.iconst 0, 1) := by decide +kernel
theorem dX6_sharedDivisor_5 : decode cX6_sharedDivisor 5 = .ok (.istore 4, 2) := by decide +kernel
theorem dX6_sharedDivisor_7 : decode cX6_sharedDivisor 7 = .ok (.iload 4, 2) := by decide +kernel
theorem dX6_sharedDivisor_9 : decode cX6_sharedDivisor 9 = .ok (.bipush 64, 2) := by decide +kernel
theorem dX6_sharedDivisor_11 : decode cX6_sharedDivisor 11 = .ok (.if_icmp .ge 23, 3) := by decide +kernel
theorem dX6_sharedDivisor_14 : decode cX6_sharedDivisor 14 = .ok (.iload_n 3, 1) := by decide +kernel
theorem dX6_sharedDivisor_15 : decode cX6_sharedDivisor 15 = .ok (.ifCond .eq 19, 3) := by decide +kernel
theorem dX6_sharedDivisor_18 : decode cX6_sharedDivisor 18 = .ok (.iload_n 2, 1) := by decide +kernel
theorem dX6_sharedDivisor_19 : decode cX6_sharedDivisor 19 = .ok (.iload_n 3, 1) := by decide +kernel
theorem dX6_sharedDivisor_20 : decode cX6_sharedDivisor 20 = .ok (.irem, 1) := by decide +kernel
theorem dX6_sharedDivisor_21 : decode cX6_sharedDivisor 21 = .ok (.istore 5, 2) := by decide +kernel
theorem dX6_sharedDivisor_23 : decode cX6_sharedDivisor 23 = .ok (.iload_n 3, 1) := by decide +kernel
theorem dX6_sharedDivisor_24 : decode cX6_sharedDivisor 24 = .ok (.istore_n 2, 1) := by decide +kernel
theorem dX6_sharedDivisor_25 : decode cX6_sharedDivisor 25 = .ok (.iload 5, 2) := by decide +kernel
theorem dX6_sharedDivisor_27 : decode cX6_sharedDivisor 27 = .ok (.istore_n 3, 1) := by decide +kernel
theorem dX6_sharedDivisor_28 : decode cX6_sharedDivisor 28 = .ok (.iinc 4 1, 3) := by decide +kernel
theorem dX6_sharedDivisor_31 : decode cX6_sharedDivisor 31 = .ok (.goto (-24), 3) := by decide +kernel
theorem dX6_sharedDivisor_34 : decode cX6_sharedDivisor 34 = .ok (.iload_n 2, 1) := by decide +kernel
theorem dX6_sharedDivisor_35 : decode cX6_sharedDivisor 35 = .ok (.ireturn, 1) := by decide +kernel
theorem dX7_init_0 : decode cX7_init 0 = .ok (.aload_n 0, 1) := by decide +kernel
theorem dX7_init_1 : decode cX7_init 1 = .ok (.invokespecial 1, 3) := by decide +kernel
theorem dX7_init_4 : decode cX7_init 4 = .ok (.aload_n 0, 1) := by decide +kernel
theorem dX7_init_5 : decode cX7_init 5 = .ok (.bipush 60, 2) := by decide +kernel
theorem dX7_init_7 : decode cX7_init 7 = .ok (.newarray .int, 2) := by decide +kernel
theorem dX7_init_9 : decode cX7_init 9 = .ok (.putfield 7, 3) := by decide +kernel
theorem dX7_init_12 : decode cX7_init 12 = .ok (.aload_n 0, 1) := by decide +kernel
theorem dX7_init_13 : decode cX7_init 13 = .ok (.bipush 32, 2) := by decide +kernel
theorem dX7_init_15 : decode cX7_init 15 = .ok (.newarray .int, 2) := by decide +kernel
theorem dX7_init_17 : decode cX7_init 17 = .ok (.putfield 13, 3) := by decide +kernel
theorem dX7_init_20 : decode cX7_init 20 = .ok (.aload_n 0, 1) := by decide +kernel
theorem dX7_init_21 : decode cX7_init 21 = .ok (.bipush 32, 2) := by decide +kernel
theorem dX7_init_23 : decode cX7_init 23 = .ok (.newarray .int, 2) := by decide +kernel
theorem dX7_init_25 : decode cX7_init 25 = .ok (.putfield 16, 3) := by decide +kernel
theorem dX7_init_28 : decode cX7_init 28 = .ok (.aload_n 0, 1) := by decide +kernel
theorem dX7_init_29 : decode cX7_init 29 = .ok (.sipush 448, 3) := by decide +kernel
theorem dX7_init_32 : decode cX7_init 32 = .ok (.newarray .int, 2) := by decide +kernel
theorem dX7_init_34 : decode cX7_init 34 = .ok (.putfield 19, 3) := by decide +kernel
theorem dX7_init_37 : decode cX7_init 37 = .ok (.aload_n 0, 1) := by decide +kernel
theorem dX7_init_38 : decode cX7_init 38 = .ok (.bipush 64, 2) := by decide +kernel
theorem dX7_init_40 : decode cX7_init 40 = .ok (.newarray .int, 2) := by decide +kernel
theorem dX7_init_42 : decode cX7_init 42 = .ok (.putfield 22, 3) := by decide +kernel
theorem dX7_init_45 : decode cX7_init 45 = .ok (.aload_n 0, 1) := by decide +kernel
theorem dX7_init_46 : decode cX7_init 46 = .ok (.iconst 2, 1) := by decide +kernel
theorem dX7_init_47 : decode cX7_init 47 = .ok (.newarray .boolean, 2) := by decide +kernel
theorem dX7_init_49 : decode cX7_init 49 = .ok (.putfield 25, 3) := by decide +kernel
theorem dX7_init_52 : decode cX7_init 52 = .ok (.aload_n 0, 1) := by decide +kernel
theorem dX7_init_53 : decode cX7_init 53 = .ok (.iconst 4, 1) := by decide +kernel
theorem dX7_init_54 : decode cX7_init 54 = .ok (.newarray .int, 2) := by decide +kernel
theorem dX7_init_56 : decode cX7_init 56 = .ok (.putfield 29, 3) := by decide +kernel
theorem dX7_init_59 : decode cX7_init 59 = .ok (.aload_n 0, 1) := by decide +kernel
theorem dX7_init_60 : decode cX7_init 60 = .ok (.iconst 3, 1) := by decide +kernel
theorem dX7_init_61 : decode cX7_init 61 = .ok (.newarray .int, 2) := by decide +kernel
theorem dX7_init_63 : decode cX7_init 63 = .ok (.putfield 32, 3) := by decide +kernel
theorem dX7_init_66 : decode cX7_init 66 = .ok (.aload_n 0, 1) := by decide +kernel
theorem dX7_init_67 : decode cX7_init 67 = .ok (.iconst 4, 1) := by decide +kernel
theorem dX7_init_68 : decode cX7_init 68 = .ok (.newarray .int, 2) := by decide +kernel
theorem dX7_init_70 : decode cX7_init 70 = .ok (.putfield 35, 3) := by decide +kernel
theorem dX7_init_73 : decode cX7_init 73 = .ok (.aload_n 0, 1) := by decide +kernel
end
section
theorem dX7_init_74 : decode cX7_init 74 = .ok (.iconst 3, 1) := by decide +kernel
theorem dX7_init_75 : decode cX7_init 75 = .ok (.newarray .int, 2) := by decide +kernel
theorem dX7_init_77 : decode cX7_init 77 = .ok (.putfield 38, 3) := by decide +kernel
theorem dX7_init_80 : decode cX7_init 80 = .ok (.aload_n 0, 1) := by decide +kernel
theorem dX7_init_81 : decode cX7_init 81 = .ok (.bipush 16, 2) := by decide +kernel
theorem dX7_init_83 : decode cX7_init 83 = .ok (.newarray .int, 2) := by decide +kernel
theorem dX7_init_85 : decode cX7_init 85 = .ok (.putfield 41, 3) := by decide +kernel
theorem dX7_init_88 : decode cX7_init 88 = .ok (.aload_n 0, 1) := by decide +kernel
theorem dX7_init_89 : decode cX7_init 89 = .ok (.bipush 6, 2) := by decide +kernel
theorem dX7_init_91 : decode cX7_init 91 = .ok (.newarray .int, 2) := by decide +kernel
theorem dX7_init_93 : decode cX7_init 93 = .ok (.putfield 44, 3) := by decide +kernel
theorem dX7_init_96 : decode cX7_init 96 = .ok (.aload_n 0, 1) := by decide +kernel
theorem dX7_init_97 : decode cX7_init 97 = .ok (.bipush 6, 2) := by decide +kernel
theorem dX7_init_99 : decode cX7_init 99 = .ok (.newarray .int, 2) := by decide +kernel
theorem dX7_init_101 : decode cX7_init 101 = .ok (.putfield 47, 3) := by decide +kernel
theorem dX7_init_104 : decode cX7_init 104 = .ok (.aload_n 0, 1) := by decide +kernel
theorem dX7_init_105 : decode cX7_init 105 = .ok (.bipush 6, 2) := by decide +kernel
theorem dX7_init_107 : decode cX7_init 107 = .ok (.newarray .int, 2) := by decide +kernel
theorem dX7_init_109 : decode cX7_init 109 = .ok (.putfield 50, 3) := by decide +kernel
theorem dX7_init_112 : decode cX7_init 112 = .ok (.aload_n 0, 1) := by decide +kernel
theorem dX7_init_113 : decode cX7_init 113 = .ok (.bipush 6, 2) := by decide +kernel
theorem dX7_init_115 : decode cX7_init 115 = .ok (.newarray .int, 2) := by decide +kernel
theorem dX7_init_117 : decode cX7_init 117 = .ok (.putfield 53, 3) := by decide +kernel
theorem dX7_init_120 : decode cX7_init 120 = .ok (.aload_n 0, 1) := by decide +kernel
theorem dX7_init_121 : decode cX7_init 121 = .ok (.bipush 12, 2) := by decide +kernel
theorem dX7_init_123 : decode cX7_init 123 = .ok (.newarray .int, 2) := by decide +kernel
theorem dX7_init_125 : decode cX7_init 125 = .ok (.putfield 56, 3) := by decide +kernel
theorem dX7_init_128 : decode cX7_init 128 = .ok (.aload_n 0, 1) := by decide +kernel
theorem dX7_init_129 : decode cX7_init 129 = .ok (.bipush 16, 2) := by decide +kernel
theorem dX7_init_131 : decode cX7_init 131 = .ok (.newarray .int, 2) := by decide +kernel
theorem dX7_init_133 : decode cX7_init 133 = .ok (.putfield 59, 3) := by decide +kernel
theorem dX7_init_136 : decode cX7_init 136 = .ok (.aload_n 0, 1) := by decide +kernel
theorem dX7_init_137 : decode cX7_init 137 = .ok (.invokevirtual 62, 3) := by decide +kernel
theorem dX7_init_140 : decode cX7_init 140 = .ok (.return_, 1) := by decide +kernel
theorem dX7_forgetForms_0 : decode cX7_forgetForms 0 = .ok (.bipush 20, 2) := by decide +kernel
theorem dX7_forgetForms_2 : decode cX7_forgetForms 2 = .ok (.istore_n 1, 1) := by decide +kernel
theorem dX7_forgetForms_3 : decode cX7_forgetForms 3 = .ok (.iload_n 1, 1) := by decide +kernel
theorem dX7_forgetForms_4 : decode cX7_forgetForms 4 = .ok (.bipush 32, 2) := by decide +kernel
theorem dX7_forgetForms_6 : decode cX7_forgetForms 6 = .ok (.if_icmp .ge 17, 3) := by decide +kernel
theorem dX7_forgetForms_9 : decode cX7_forgetForms 9 = .ok (.aload_n 0, 1) := by decide +kernel
theorem dX7_forgetForms_10 : decode cX7_forgetForms 10 = .ok (.getfield 13, 3) := by decide +kernel
theorem dX7_forgetForms_13 : decode cX7_forgetForms 13 = .ok (.iload_n 1, 1) := by decide +kernel
theorem dX7_forgetForms_14 : decode cX7_forgetForms 14 = .ok (.bipush (-9), 2) := by decide +kernel
theorem dX7_forgetForms_16 : decode cX7_forgetForms 16 = .ok (.iastore, 1) := by decide +kernel
theorem dX7_forgetForms_17 : decode cX7_forgetForms 17 = .ok (.iinc 1 1, 3) := by decide +kernel
theorem dX7_forgetForms_20 : decode cX7_forgetForms 20 = .ok (.goto (-17), 3) := by decide +kernel
theorem dX7_forgetForms_23 : decode cX7_forgetForms 23 = .ok (.return_, 1) := by decide +kernel
theorem dX7_in_0 : decode cX7_in 0 = .ok (.lload_n 0, 1) := by decide +kernel
theorem dX7_in_1 : decode cX7_in 1 = .ok (.lload_n 2, 1) := by decide +kernel
theorem dX7_in_2 : decode cX7_in 2 = .ok (.lcmp, 1) := by decide +kernel
theorem dX7_in_3 : decode cX7_in 3 = .ok (.ifCond .lt 14, 3) := by decide +kernel
theorem dX7_in_6 : decode cX7_in 6 = .ok (.lload_n 0, 1) := by decide +kernel
theorem dX7_in_7 : decode cX7_in 7 = .ok (.lload 4, 2) := by decide +kernel
theorem dX7_in_9 : decode cX7_in 9 = .ok (.lcmp, 1) := by decide +kernel
theorem dX7_in_10 : decode cX7_in 10 = .ok (.ifCond .gt 7, 3) := by decide +kernel
theorem dX7_in_13 : decode cX7_in 13 = .ok (.iconst 1, 1) := by decide +kernel
theorem dX7_in_14 : decode cX7_in 14 = .ok (.goto 4, 3) := by decide +kernel
theorem dX7_in_17 : decode cX7_in 17 = .ok (.iconst 0, 1) := by decide +kernel
theorem dX7_in_18 : decode cX7_in 18 = .ok (.ireturn, 1) := by decide +kernel
theorem dX7_has_0 : decode cX7_has 0 = .ok (.iload_n 0, 1) := by decide +kernel
theorem dX7_has_1 : decode cX7_has 1 = .ok (.iload_n 1, 1) := by decide +kernel
theorem dX7_has_2 : decode cX7_has 2 = .ok (.ishr, 1) := by decide +kernel
theorem dX7_has_3 : decode cX7_has 3 = .ok (.iconst 1, 1) := by decide +kernel
theorem dX7_has_4 : decode cX7_has 4 = .ok (.iand, 1) := by decide +kernel
theorem dX7_has_5 : decode cX7_has 5 = .ok (.iconst 1, 1) := by decide +kernel
theorem dX7_has_6 : decode cX7_has 6 = .ok (.if_icmp .ne 7, 3) := by decide +kernel
theorem dX7_has_9 : decode cX7_has 9 = .ok (.iconst 1, 1) := by decide +kernel
theorem dX7_has_10 : decode cX7_has 10 = .ok (.goto 4, 3) := by decide +kernel
theorem dX7_has_13 : decode cX7_has 13 = .ok (.iconst 0, 1) := by decide +kernel
theorem dX7_has_14 : decode cX7_has 14 = .ok (.ireturn, 1) := by decide +kernel
theorem dX7_ones_0 : decode cX7_ones 0 = .ok (.iconst 0, 1) := by decide +kernel
theorem dX7_ones_1 : decode cX7_ones 1 = .ok (.istore_n 1, 1) := by decide +kernel
theorem dX7_ones_2 : decode cX7_ones 2 = .ok (.iconst 0, 1) := by decide +kernel
theorem dX7_ones_3 : decode cX7_ones 3 = .ok (.istore_n 2, 1) := by decide +kernel
theorem dX7_ones_4 : decode cX7_ones 4 = .ok (.iload_n 2, 1) := by decide +kernel
theorem dX7_ones_5 : decode cX7_ones 5 = .ok (.iconst 4, 1) := by decide +kernel
theorem dX7_ones_6 : decode cX7_ones 6 = .ok (.if_icmp .ge 17, 3) := by decide +kernel
theorem dX7_ones_9 : decode cX7_ones 9 = .ok (.iload_n 1, 1) := by decide +kernel
theorem dX7_ones_10 : decode cX7_ones 10 = .ok (.iload_n 0, 1) := by decide +kernel
theorem dX7_ones_11 : decode cX7_ones 11 = .ok (.iload_n 2, 1) := by decide +kernel
theorem dX7_ones_12 : decode cX7_ones 12 = .ok (.ishr, 1) := by decide +kernel
theorem dX7_ones_13 : decode cX7_ones 13 = .ok (.iconst 1, 1) := by decide +kernel
theorem dX7_ones_14 : decode cX7_ones 14 = .ok (.iand, 1) := by decide +kernel
theorem dX7_ones_15 : decode cX7_ones 15 = .ok (.iadd, 1) := by decide +kernel
theorem dX7_ones_16 : decode cX7_ones 16 = .ok (.istore_n 1, 1) := by decide +kernel
theorem dX7_ones_17 : decode cX7_ones 17 = .ok (.iinc 2 1, 3) := by decide +kernel
theorem dX7_ones_20 : decode cX7_ones 20 = .ok (.goto (-16), 3) := by decide +kernel
theorem dX7_ones_23 : decode cX7_ones 23 = .ok (.iload_n 1, 1) := by decide +kernel
theorem dX7_ones_24 : decode cX7_ones 24 = .ok (.ireturn, 1) := by decide +kernel
theorem dX7_power_0 : decode cX7_power 0 = .ok (.iconst 1, 1) := by decide +kernel
theorem dX7_power_1 : decode cX7_power 1 = .ok (.istore_n 2, 1) := by decide +kernel
theorem dX7_power_2 : decode cX7_power 2 = .ok (.iconst 0, 1) := by decide +kernel
theorem dX7_power_3 : decode cX7_power 3 = .ok (.istore_n 3, 1) := by decide +kernel
theorem dX7_power_4 : decode cX7_power 4 = .ok (.iload_n 3, 1) := by decide +kernel
theorem dX7_power_5 : decode cX7_power 5 = .ok (.iload_n 1, 1) := by decide +kernel
theorem dX7_power_6 : decode cX7_power 6 = .ok (.if_icmp .ge 13, 3) := by decide +kernel
theorem dX7_power_9 : decode cX7_power 9 = .ok (.iload_n 2, 1) := by decide +kernel
theorem dX7_power_10 : decode cX7_power 10 = .ok (.iload_n 0, 1) := by decide +kernel
theorem dX7_power_11 : decode cX7_power 11 = .ok (.imul, 1) := by decide +kernel
theorem dX7_power_12 : decode cX7_power 12 = .ok (.istore_n 2, 1) := by decide +kernel
theorem dX7_power_13 : decode cX7_power 13 = .ok (.iinc 3 1, 3) := by decide +kernel
theorem dX7_power_16 : decode cX7_power 16 = .ok (.goto (-12), 3) := by decide +kernel
theorem dX7_power_19 : decode cX7_power 19 = .ok (.iload_n 2, 1) := by decide +kernel
theorem dX7_power_20 : decode cX7_power 20 = .ok (.ireturn, 1) := by decide +kernel
theorem dX7_factorial_0 : decode cX7_factorial 0 = .ok (.iconst 1, 1) := by decide +kernel
theorem dX7_factorial_1 : decode cX7_factorial 1 = .ok (.istore_n 1, 1) := by decide +kernel
theorem dX7_factorial_2 : decode cX7_factorial 2 = .ok (.iconst 2, 1) := by decide +kernel
theorem dX7_factorial_3 : decode cX7_factorial 3 = .ok (.istore_n 2, 1) := by decide +kernel
theorem dX7_factorial_4 : decode cX7_factorial 4 = .ok (.iload_n 2, 1) := by decide +kernel
theorem dX7_factorial_5 : decode cX7_factorial 5 = .ok (.iload_n 0, 1) := by decide +kernel
theorem dX7_factorial_6 : decode cX7_factorial 6 = .ok (.if_icmp .gt 13, 3) := by decide +kernel
theorem dX7_factorial_9 : decode cX7_factorial 9 = .ok (.iload_n 1, 1) := by decide +kernel
theorem dX7_factorial_10 : decode cX7_factorial 10 = .ok (.iload_n 2, 1) := by decide +kernel
theorem dX7_factorial_11 : decode cX7_factorial 11 = .ok (.imul, 1) := by decide +kernel
theorem dX7_factorial_12 : decode cX7_factorial 12 = .ok (.istore_n 1, 1) := by decide +kernel
theorem dX7_factorial_13 : decode cX7_factorial 13 = .ok (.iinc 2 1, 3) := by decide +kernel
theorem dX7_factorial_16 : decode cX7_factorial 16 = .ok (.goto (-12), 3) := by decide +kernel
theorem dX7_factorial_19 : decode cX7_factorial 19 = .ok (.iload_n 1, 1) := by decide +kernel
theorem dX7_factorial_20 : decode cX7_factorial 20 = .ok (.ireturn, 1) := by decide +kernel
theorem dX7_divisor_0 : decode cX7_divisor 0 = .ok (.iload_n 0, 1) := by decide +kernel
theorem dX7_divisor_1 : decode cX7_divisor 1 = .ok (.ifCond .ge 8, 3) := by decide +kernel
theorem dX7_divisor_4 : decode cX7_divisor 4 = .ok (.iload_n 0, 1) := by decide +kernel
theorem dX7_divisor_5 : decode cX7_divisor 5 = .ok (.ineg, 1) := by decide +kernel
theorem dX7_divisor_6 : decode cX7_divisor 6 = .ok (.goto 4, 3) := by decide +kernel
theorem dX7_divisor_9 : decode cX7_divisor 9 = .ok (.iload_n 0, 1) := by decide +kernel
theorem dX7_divisor_10 : decode cX7_divisor 10 = .ok (.istore_n 2, 1) := by decide +kernel
theorem dX7_divisor_11 : decode cX7_divisor 11 = .ok (.iload_n 1, 1) := by decide +kernel
theorem dX7_divisor_12 : decode cX7_divisor 12 = .ok (.istore_n 3, 1) := by decide +kernel
theorem dX7_divisor_13 : decode cX7_divisor 13 = .ok (.iload_n 3, 1) := by decide +kernel
theorem dX7_divisor_14 : decode cX7_divisor 14 = .ok (.ifCond .eq 16, 3) := by decide +kernel
theorem dX7_divisor_17 : decode cX7_divisor 17 = .ok (.iload_n 2, 1) := by decide +kernel
theorem dX7_divisor_18 : decode cX7_divisor 18 = .ok (.iload_n 3, 1) := by decide +kernel
theorem dX7_divisor_19 : decode cX7_divisor 19 = .ok (.irem, 1) := by decide +kernel
theorem dX7_divisor_20 : decode cX7_divisor 20 = .ok (.istore 4, 2) := by decide +kernel
theorem dX7_divisor_22 : decode cX7_divisor 22 = .ok (.iload_n 3, 1) := by decide +kernel
theorem dX7_divisor_23 : decode cX7_divisor 23 = .ok (.istore_n 2, 1) := by decide +kernel
theorem dX7_divisor_24 : decode cX7_divisor 24 = .ok (.iload 4, 2) := by decide +kernel
theorem dX7_divisor_26 : decode cX7_divisor 26 = .ok (.istore_n 3, 1) := by decide +kernel
theorem dX7_divisor_27 : decode cX7_divisor 27 = .ok (.goto (-14), 3) := by decide +kernel
theorem dX7_divisor_30 : decode cX7_divisor 30 = .ok (.iload_n 2, 1) := by decide +kernel
theorem dX7_divisor_31 : decode cX7_divisor 31 = .ok (.ireturn, 1) := by decide +kernel
theorem dX7_fraction_0 : decode cX7_fraction 0 = .ok (.iload_n 0, 1) := by decide +kernel
theorem dX7_fraction_1 : decode cX7_fraction 1 = .ok (.iload_n 1, 1) := by decide +kernel
theorem dX7_fraction_2 : decode cX7_fraction 2 = .ok (.invokestatic 65, 3) := by decide +kernel
theorem dX7_fraction_5 : decode cX7_fraction 5 = .ok (.istore_n 3, 1) := by decide +kernel
theorem dX7_fraction_6 : decode cX7_fraction 6 = .ok (.iload_n 2, 1) := by decide +kernel
theorem dX7_fraction_7 : decode cX7_fraction 7 = .ok (.ifCond .eq 9, 3) := by decide +kernel
theorem dX7_fraction_10 : decode cX7_fraction 10 = .ok (.iload_n 0, 1) := by decide +kernel
theorem dX7_fraction_11 : decode cX7_fraction 11 = .ok (.iload_n 3, 1) := by decide +kernel
theorem dX7_fraction_12 : decode cX7_fraction 12 = .ok (.idiv, 1) := by decide +kernel
theorem dX7_fraction_13 : decode cX7_fraction 13 = .ok (.goto 6, 3) := by decide +kernel
theorem dX7_fraction_16 : decode cX7_fraction 16 = .ok (.iload_n 1, 1) := by decide +kernel
theorem dX7_fraction_17 : decode cX7_fraction 17 = .ok (.iload_n 3, 1) := by decide +kernel
theorem dX7_fraction_18 : decode cX7_fraction 18 = .ok (.idiv, 1) := by decide +kernel
theorem dX7_fraction_19 : decode cX7_fraction 19 = .ok (.ireturn, 1) := by decide +kernel
theorem dX7_size_0 : decode cX7_size 0 = .ok (.iconst 0, 1) := by decide +kernel
theorem dX7_size_1 : decode cX7_size 1 = .ok (.istore_n 1, 1) := by decide +kernel
theorem dX7_size_2 : decode cX7_size 2 = .ok (.iload_n 0, 1) := by decide +kernel
theorem dX7_size_3 : decode cX7_size 3 = .ok (.istore_n 2, 1) := by decide +kernel
theorem dX7_size_4 : decode cX7_size 4 = .ok (.iload_n 2, 1) := by decide +kernel
theorem dX7_size_5 : decode cX7_size 5 = .ok (.ifCond .le 14, 3) := by decide +kernel
theorem dX7_size_8 : decode cX7_size 8 = .ok (.iinc 1 1, 3) := by decide +kernel
theorem dX7_size_11 : decode cX7_size 11 = .ok (.iload_n 2, 1) := by decide +kernel
theorem dX7_size_12 : decode cX7_size 12 = .ok (.bipush 10, 2) := by decide +kernel
theorem dX7_size_14 : decode cX7_size 14 = .ok (.idiv, 1) := by decide +kernel
theorem dX7_size_15 : decode cX7_size 15 = .ok (.istore_n 2, 1) := by decide +kernel
theorem dX7_size_16 : decode cX7_size 16 = .ok (.goto (-12), 3) := by decide +kernel
theorem dX7_size_19 : decode cX7_size 19 = .ok (.iload_n 1, 1) := by decide +kernel
theorem dX7_size_20 : decode cX7_size 20 = .ok (.ireturn, 1) := by decide +kernel
theorem dX7_letterAt_0 : decode cX7_letterAt 0 = .ok (.iload_n 0, 1) := by decide +kernel
theorem dX7_letterAt_1 : decode cX7_letterAt 1 = .ok (.invokestatic 69, 3) := by decide +kernel
theorem dX7_letterAt_4 : decode cX7_letterAt 4 = .ok (.istore_n 2, 1) := by decide +kernel
theorem dX7_letterAt_5 : decode cX7_letterAt 5 = .ok (.iload_n 1, 1) := by decide +kernel
theorem dX7_letterAt_6 : decode cX7_letterAt 6 = .ok (.iload_n 2, 1) := by decide +kernel
theorem dX7_letterAt_7 : decode cX7_letterAt 7 = .ok (.if_icmp .ge 21, 3) := by decide +kernel
theorem dX7_letterAt_10 : decode cX7_letterAt 10 = .ok (.iload_n 0, 1) := by decide +kernel
theorem dX7_letterAt_11 : decode cX7_letterAt 11 = .ok (.bipush 10, 2) := by decide +kernel
theorem dX7_letterAt_13 : decode cX7_letterAt 13 = .ok (.iload_n 2, 1) := by decide +kernel
theorem dX7_letterAt_14 : decode cX7_letterAt 14 = .ok (.iconst 1, 1) := by decide +kernel
theorem dX7_letterAt_15 : decode cX7_letterAt 15 = .ok (.isub, 1) := by decide +kernel
theorem dX7_letterAt_16 : decode cX7_letterAt 16 = .ok (.iload_n 1, 1) := by decide +kernel
theorem dX7_letterAt_17 : decode cX7_letterAt 17 = .ok (.isub, 1) := by decide +kernel
theorem dX7_letterAt_18 : decode cX7_letterAt 18 = .ok (.invokestatic 73, 3) := by decide +kernel
theorem dX7_letterAt_21 : decode cX7_letterAt 21 = .ok (.idiv, 1) := by decide +kernel
theorem dX7_letterAt_22 : decode cX7_letterAt 22 = .ok (.bipush 10, 2) := by decide +kernel
theorem dX7_letterAt_24 : decode cX7_letterAt 24 = .ok (.irem, 1) := by decide +kernel
theorem dX7_letterAt_25 : decode cX7_letterAt 25 = .ok (.goto 5, 3) := by decide +kernel
theorem dX7_letterAt_28 : decode cX7_letterAt 28 = .ok (.bipush (-9), 2) := by decide +kernel
theorem dX7_letterAt_30 : decode cX7_letterAt 30 = .ok (.ireturn, 1) := by decide +kernel
theorem dX7_isWord_0 : decode cX7_isWord 0 = .ok (.iload_n 0, 1) := by decide +kernel
theorem dX7_isWord_1 : decode cX7_isWord 1 = .ok (.i2l, 1) := by decide +kernel
theorem dX7_isWord_2 : decode cX7_isWord 2 = .ok (.lconst 0, 1) := by decide +kernel
theorem dX7_isWord_3 : decode cX7_isWord 3 = .ok (.ldc2_w 76, 3) := by decide +kernel
theorem dX7_isWord_6 : decode cX7_isWord 6 = .ok (.invokestatic 78, 3) := by decide +kernel
theorem dX7_isWord_9 : decode cX7_isWord 9 = .ok (.ifCond .ne 5, 3) := by decide +kernel
theorem dX7_isWord_12 : decode cX7_isWord 12 = .ok (.iconst 0, 1) := by decide +kernel
theorem dX7_isWord_13 : decode cX7_isWord 13 = .ok (.ireturn, 1) := by decide +kernel
theorem dX7_isWord_14 : decode cX7_isWord 14 = .ok (.iconst 1, 1) := by decide +kernel
theorem dX7_isWord_15 : decode cX7_isWord 15 = .ok (.istore_n 1, 1) := by decide +kernel
theorem dX7_isWord_16 : decode cX7_isWord 16 = .ok (.iload_n 0, 1) := by decide +kernel
theorem dX7_isWord_17 : decode cX7_isWord 17 = .ok (.istore_n 2, 1) := by decide +kernel
theorem dX7_isWord_18 : decode cX7_isWord 18 = .ok (.iload_n 2, 1) := by decide +kernel
theorem dX7_isWord_19 : decode cX7_isWord 19 = .ok (.ifCond .le 36, 3) := by decide +kernel
theorem dX7_isWord_22 : decode cX7_isWord 22 = .ok (.iload_n 1, 1) := by decide +kernel
theorem dX7_isWord_23 : decode cX7_isWord 23 = .ok (.ifCond .eq 22, 3) := by decide +kernel
theorem dX7_isWord_26 : decode cX7_isWord 26 = .ok (.iload_n 2, 1) := by decide +kernel
theorem dX7_isWord_27 : decode cX7_isWord 27 = .ok (.bipush 10, 2) := by decide +kernel
theorem dX7_isWord_29 : decode cX7_isWord 29 = .ok (.irem, 1) := by decide +kernel
theorem dX7_isWord_30 : decode cX7_isWord 30 = .ok (.i2l, 1) := by decide +kernel
theorem dX7_isWord_31 : decode cX7_isWord 31 = .ok (.lconst 1, 1) := by decide +kernel
theorem dX7_isWord_32 : decode cX7_isWord 32 = .ok (.ldc2_w 82, 3) := by decide +kernel
theorem dX7_isWord_35 : decode cX7_isWord 35 = .ok (.invokestatic 78, 3) := by decide +kernel
theorem dX7_isWord_38 : decode cX7_isWord 38 = .ok (.ifCond .eq 7, 3) := by decide +kernel
theorem dX7_isWord_41 : decode cX7_isWord 41 = .ok (.iconst 1, 1) := by decide +kernel
theorem dX7_isWord_42 : decode cX7_isWord 42 = .ok (.goto 4, 3) := by decide +kernel
theorem dX7_isWord_45 : decode cX7_isWord 45 = .ok (.iconst 0, 1) := by decide +kernel
theorem dX7_isWord_46 : decode cX7_isWord 46 = .ok (.istore_n 1, 1) := by decide +kernel
theorem dX7_isWord_47 : decode cX7_isWord 47 = .ok (.iload_n 2, 1) := by decide +kernel
theorem dX7_isWord_48 : decode cX7_isWord 48 = .ok (.bipush 10, 2) := by decide +kernel
theorem dX7_isWord_50 : decode cX7_isWord 50 = .ok (.idiv, 1) := by decide +kernel
theorem dX7_isWord_51 : decode cX7_isWord 51 = .ok (.istore_n 2, 1) := by decide +kernel
theorem dX7_isWord_52 : decode cX7_isWord 52 = .ok (.goto (-34), 3) := by decide +kernel
theorem dX7_isWord_55 : decode cX7_isWord 55 = .ok (.iload_n 1, 1) := by decide +kernel
theorem dX7_isWord_56 : decode cX7_isWord 56 = .ok (.ireturn, 1) := by decide +kernel
theorem dX7_fits_0 : decode cX7_fits 0 = .ok (.iload_n 0, 1) := by decide +kernel
theorem dX7_fits_1 : decode cX7_fits 1 = .ok (.bipush 6, 2) := by decide +kernel
theorem dX7_fits_3 : decode cX7_fits 3 = .ok (.if_icmp .ne 5, 3) := by decide +kernel
theorem dX7_fits_6 : decode cX7_fits 6 = .ok (.iconst 1, 1) := by decide +kernel
theorem dX7_fits_7 : decode cX7_fits 7 = .ok (.ireturn, 1) := by decide +kernel
theorem dX7_fits_8 : decode cX7_fits 8 = .ok (.iload_n 0, 1) := by decide +kernel
theorem dX7_fits_9 : decode cX7_fits 9 = .ok (.bipush 7, 2) := by decide +kernel
theorem dX7_fits_11 : decode cX7_fits 11 = .ok (.if_icmp .ne 15, 3) := by decide +kernel
theorem dX7_fits_14 : decode cX7_fits 14 = .ok (.iload_n 1, 1) := by decide +kernel
theorem dX7_fits_15 : decode cX7_fits 15 = .ok (.ifCond .ne 7, 3) := by decide +kernel
theorem dX7_fits_18 : decode cX7_fits 18 = .ok (.iconst 1, 1) := by decide +kernel
theorem dX7_fits_19 : decode cX7_fits 19 = .ok (.goto 17, 3) := by decide +kernel
theorem dX7_fits_22 : decode cX7_fits 22 = .ok (.iconst 0, 1) := by decide +kernel
theorem dX7_fits_23 : decode cX7_fits 23 = .ok (.goto 13, 3) := by decide +kernel
theorem dX7_fits_26 : decode cX7_fits 26 = .ok (.iload_n 1, 1) := by decide +kernel
theorem dX7_fits_27 : decode cX7_fits 27 = .ok (.iload_n 0, 1) := by decide +kernel
theorem dX7_fits_28 : decode cX7_fits 28 = .ok (.if_icmp .ne 7, 3) := by decide +kernel
theorem dX7_fits_31 : decode cX7_fits 31 = .ok (.iconst 1, 1) := by decide +kernel
theorem dX7_fits_32 : decode cX7_fits 32 = .ok (.goto 4, 3) := by decide +kernel
theorem dX7_fits_35 : decode cX7_fits 35 = .ok (.iconst 0, 1) := by decide +kernel
theorem dX7_fits_36 : decode cX7_fits 36 = .ok (.ireturn, 1) := by decide +kernel
theorem dX7_changed_0 : decode cX7_changed 0 = .ok (.iconst 4, 1) := by decide +kernel
theorem dX7_changed_1 : decode cX7_changed 1 = .ok (.iconst 4, 1) := by decide +kernel
theorem dX7_changed_2 : decode cX7_changed 2 = .ok (.iload_n 1, 1) := by decide +kernel
theorem dX7_changed_3 : decode cX7_changed 3 = .ok (.imul, 1) := by decide +kernel
theorem dX7_changed_4 : decode cX7_changed 4 = .ok (.iadd, 1) := by decide +kernel
theorem dX7_changed_5 : decode cX7_changed 5 = .ok (.istore_n 3, 1) := by decide +kernel
theorem dX7_changed_6 : decode cX7_changed 6 = .ok (.iconst 0, 1) := by decide +kernel
theorem dX7_changed_7 : decode cX7_changed 7 = .ok (.istore 4, 2) := by decide +kernel
theorem dX7_changed_9 : decode cX7_changed 9 = .ok (.iconst 1, 1) := by decide +kernel
theorem dX7_changed_10 : decode cX7_changed 10 = .ok (.istore 5, 2) := by decide +kernel
theorem dX7_changed_12 : decode cX7_changed 12 = .ok (.iconst 0, 1) := by decide +kernel
theorem dX7_changed_13 : decode cX7_changed 13 = .ok (.istore 6, 2) := by decide +kernel
theorem dX7_changed_15 : decode cX7_changed 15 = .ok (.iload_n 2, 1) := by decide +kernel
theorem dX7_changed_16 : decode cX7_changed 16 = .ok (.istore 7, 2) := by decide +kernel
theorem dX7_changed_18 : decode cX7_changed 18 = .ok (.iload 7, 2) := by decide +kernel
theorem dX7_changed_20 : decode cX7_changed 20 = .ok (.ifCond .le 114, 3) := by decide +kernel
theorem dX7_changed_23 : decode cX7_changed 23 = .ok (.iload 7, 2) := by decide +kernel
theorem dX7_changed_25 : decode cX7_changed 25 = .ok (.bipush 10, 2) := by decide +kernel
theorem dX7_changed_27 : decode cX7_changed 27 = .ok (.irem, 1) := by decide +kernel
theorem dX7_changed_28 : decode cX7_changed 28 = .ok (.istore 8, 2) := by decide +kernel
theorem dX7_changed_30 : decode cX7_changed 30 = .ok (.iload 8, 2) := by decide +kernel
theorem dX7_changed_32 : decode cX7_changed 32 = .ok (.aload_n 0, 1) := by decide +kernel
theorem dX7_changed_33 : decode cX7_changed 33 = .ok (.iload_n 3, 1) := by decide +kernel
theorem dX7_changed_34 : decode cX7_changed 34 = .ok (.iaload, 1) := by decide +kernel
theorem dX7_changed_35 : decode cX7_changed 35 = .ok (.if_icmp .ne 39, 3) := by decide +kernel
theorem dX7_changed_38 : decode cX7_changed 38 = .ok (.aload_n 0, 1) := by decide +kernel
theorem dX7_changed_39 : decode cX7_changed 39 = .ok (.iload_n 3, 1) := by decide +kernel
theorem dX7_changed_40 : decode cX7_changed 40 = .ok (.iconst 2, 1) := by decide +kernel
theorem dX7_changed_41 : decode cX7_changed 41 = .ok (.iadd, 1) := by decide +kernel
theorem dX7_changed_42 : decode cX7_changed 42 = .ok (.iaload, 1) := by decide +kernel
theorem dX7_changed_43 : decode cX7_changed 43 = .ok (.iload 7, 2) := by decide +kernel
theorem dX7_changed_45 : decode cX7_changed 45 = .ok (.bipush 10, 2) := by decide +kernel
theorem dX7_changed_47 : decode cX7_changed 47 = .ok (.idiv, 1) := by decide +kernel
theorem dX7_changed_48 : decode cX7_changed 48 = .ok (.bipush 10, 2) := by decide +kernel
theorem dX7_changed_50 : decode cX7_changed 50 = .ok (.irem, 1) := by decide +kernel
theorem dX7_changed_51 : decode cX7_changed 51 = .ok (.invokestatic 84, 3) := by decide +kernel
theorem dX7_changed_54 : decode cX7_changed 54 = .ok (.ifCond .eq 20, 3) := by decide +kernel
theorem dX7_changed_57 : decode cX7_changed 57 = .ok (.aload_n 0, 1) := by decide +kernel
theorem dX7_changed_58 : decode cX7_changed 58 = .ok (.iload_n 3, 1) := by decide +kernel
theorem dX7_changed_59 : decode cX7_changed 59 = .ok (.iconst 3, 1) := by decide +kernel
theorem dX7_changed_60 : decode cX7_changed 60 = .ok (.iadd, 1) := by decide +kernel
theorem dX7_changed_61 : decode cX7_changed 61 = .ok (.iaload, 1) := by decide +kernel
theorem dX7_changed_62 : decode cX7_changed 62 = .ok (.iload 6, 2) := by decide +kernel
theorem dX7_changed_64 : decode cX7_changed 64 = .ok (.invokestatic 84, 3) := by decide +kernel
theorem dX7_changed_67 : decode cX7_changed 67 = .ok (.ifCond .eq 7, 3) := by decide +kernel
theorem dX7_changed_70 : decode cX7_changed 70 = .ok (.iconst 1, 1) := by decide +kernel
theorem dX7_changed_71 : decode cX7_changed 71 = .ok (.goto 4, 3) := by decide +kernel
theorem dX7_changed_74 : decode cX7_changed 74 = .ok (.iconst 0, 1) := by decide +kernel
theorem dX7_changed_75 : decode cX7_changed 75 = .ok (.istore 9, 2) := by decide +kernel
theorem dX7_changed_77 : decode cX7_changed 77 = .ok (.iload 9, 2) := by decide +kernel
theorem dX7_changed_79 : decode cX7_changed 79 = .ok (.ifCond .eq 11, 3) := by decide +kernel
theorem dX7_changed_82 : decode cX7_changed 82 = .ok (.aload_n 0, 1) := by decide +kernel
theorem dX7_changed_83 : decode cX7_changed 83 = .ok (.iload_n 3, 1) := by decide +kernel
theorem dX7_changed_84 : decode cX7_changed 84 = .ok (.iconst 1, 1) := by decide +kernel
theorem dX7_changed_85 : decode cX7_changed 85 = .ok (.iadd, 1) := by decide +kernel
theorem dX7_changed_86 : decode cX7_changed 86 = .ok (.iaload, 1) := by decide +kernel
theorem dX7_changed_87 : decode cX7_changed 87 = .ok (.goto 5, 3) := by decide +kernel
theorem dX7_changed_90 : decode cX7_changed 90 = .ok (.iload 8, 2) := by decide +kernel
theorem dX7_changed_92 : decode cX7_changed 92 = .ok (.istore 10, 2) := by decide +kernel
theorem dX7_changed_94 : decode cX7_changed 94 = .ok (.iload 4, 2) := by decide +kernel
theorem dX7_changed_96 : decode cX7_changed 96 = .ok (.iload 5, 2) := by decide +kernel
theorem dX7_changed_98 : decode cX7_changed 98 = .ok (.iload 10, 2) := by decide +kernel
theorem dX7_changed_100 : decode cX7_changed 100 = .ok (.imul, 1) := by decide +kernel
theorem dX7_changed_101 : decode cX7_changed 101 = .ok (.iadd, 1) := by decide +kernel
theorem dX7_changed_102 : decode cX7_changed 102 = .ok (.istore 4, 2) := by decide +kernel
theorem dX7_changed_104 : decode cX7_changed 104 = .ok (.iload 5, 2) := by decide +kernel
theorem dX7_changed_106 : decode cX7_changed 106 = .ok (.iload 10, 2) := by decide +kernel
theorem dX7_changed_108 : decode cX7_changed 108 = .ok (.ifCond .ne 7, 3) := by decide +kernel
theorem dX7_changed_111 : decode cX7_changed 111 = .ok (.iconst 1, 1) := by decide +kernel
theorem dX7_changed_112 : decode cX7_changed 112 = .ok (.goto 5, 3) := by decide +kernel
theorem dX7_changed_115 : decode cX7_changed 115 = .ok (.bipush 10, 2) := by decide +kernel
theorem dX7_changed_117 : decode cX7_changed 117 = .ok (.imul, 1) := by decide +kernel
theorem dX7_changed_118 : decode cX7_changed 118 = .ok (.istore 5, 2) := by decide +kernel
theorem dX7_changed_120 : decode cX7_changed 120 = .ok (.iload 8, 2) := by decide +kernel
theorem dX7_changed_122 : decode cX7_changed 122 = .ok (.istore 6, 2) := by decide +kernel
theorem dX7_changed_124 : decode cX7_changed 124 = .ok (.iload 7, 2) := by decide +kernel
theorem dX7_changed_126 : decode cX7_changed 126 = .ok (.bipush 10, 2) := by decide +kernel
theorem dX7_changed_128 : decode cX7_changed 128 = .ok (.idiv, 1) := by decide +kernel
theorem dX7_changed_129 : decode cX7_changed 129 = .ok (.istore 7, 2) := by decide +kernel
theorem dX7_changed_131 : decode cX7_changed 131 = .ok (.goto (-113), 3) := by decide +kernel
theorem dX7_changed_134 : decode cX7_changed 134 = .ok (.iload 4, 2) := by decide +kernel
theorem dX7_changed_136 : decode cX7_changed 136 = .ok (.ireturn, 1) := by decide +kernel
theorem dX7_behindAll_0 : decode cX7_behindAll 0 = .ok (.iload_n 1, 1) := by decide +kernel
theorem dX7_behindAll_1 : decode cX7_behindAll 1 = .ok (.istore 4, 2) := by decide +kernel
theorem dX7_behindAll_3 : decode cX7_behindAll 3 = .ok (.iconst 0, 1) := by decide +kernel
theorem dX7_behindAll_4 : decode cX7_behindAll 4 = .ok (.istore 5, 2) := by decide +kernel
theorem dX7_behindAll_6 : decode cX7_behindAll 6 = .ok (.iload 5, 2) := by decide +kernel
theorem dX7_behindAll_8 : decode cX7_behindAll 8 = .ok (.iload_n 2, 1) := by decide +kernel
theorem dX7_behindAll_9 : decode cX7_behindAll 9 = .ok (.if_icmp .ge 37, 3) := by decide +kernel
theorem dX7_behindAll_12 : decode cX7_behindAll 12 = .ok (.iload_n 3, 1) := by decide +kernel
theorem dX7_behindAll_13 : decode cX7_behindAll 13 = .ok (.aload_n 0, 1) := by decide +kernel
theorem dX7_behindAll_14 : decode cX7_behindAll 14 = .ok (.iload 5, 2) := by decide +kernel
theorem dX7_behindAll_16 : decode cX7_behindAll 16 = .ok (.iaload, 1) := by decide +kernel
theorem dX7_behindAll_17 : decode cX7_behindAll 17 = .ok (.invokestatic 88, 3) := by decide +kernel
theorem dX7_behindAll_20 : decode cX7_behindAll 20 = .ok (.ifCond .eq 16, 3) := by decide +kernel
theorem dX7_behindAll_23 : decode cX7_behindAll 23 = .ok (.aload_n 0, 1) := by decide +kernel
theorem dX7_behindAll_24 : decode cX7_behindAll 24 = .ok (.aload_n 0, 1) := by decide +kernel
theorem dX7_behindAll_25 : decode cX7_behindAll 25 = .ok (.iload 5, 2) := by decide +kernel
theorem dX7_behindAll_27 : decode cX7_behindAll 27 = .ok (.iaload, 1) := by decide +kernel
theorem dX7_behindAll_28 : decode cX7_behindAll 28 = .ok (.iload 4, 2) := by decide +kernel
theorem dX7_behindAll_30 : decode cX7_behindAll 30 = .ok (.invokestatic 91, 3) := by decide +kernel
theorem dX7_behindAll_33 : decode cX7_behindAll 33 = .ok (.goto 5, 3) := by decide +kernel
theorem dX7_behindAll_36 : decode cX7_behindAll 36 = .ok (.iload 4, 2) := by decide +kernel
theorem dX7_behindAll_38 : decode cX7_behindAll 38 = .ok (.istore 4, 2) := by decide +kernel
theorem dX7_behindAll_40 : decode cX7_behindAll 40 = .ok (.iinc 5 1, 3) := by decide +kernel
theorem dX7_behindAll_43 : decode cX7_behindAll 43 = .ok (.goto (-37), 3) := by decide +kernel
theorem dX7_behindAll_46 : decode cX7_behindAll 46 = .ok (.iload 4, 2) := by decide +kernel
theorem dX7_behindAll_48 : decode cX7_behindAll 48 = .ok (.ireturn, 1) := by decide +kernel
theorem dX7_join_0 : decode cX7_join 0 = .ok (.iload_n 0, 1) := by decide +kernel
theorem dX7_join_1 : decode cX7_join 1 = .ok (.bipush 10, 2) := by decide +kernel
theorem dX7_join_3 : decode cX7_join 3 = .ok (.iload_n 1, 1) := by decide +kernel
theorem dX7_join_4 : decode cX7_join 4 = .ok (.invokestatic 69, 3) := by decide +kernel
theorem dX7_join_7 : decode cX7_join 7 = .ok (.invokestatic 73, 3) := by decide +kernel
theorem dX7_join_10 : decode cX7_join 10 = .ok (.imul, 1) := by decide +kernel
theorem dX7_join_11 : decode cX7_join 11 = .ok (.iload_n 1, 1) := by decide +kernel
theorem dX7_join_12 : decode cX7_join 12 = .ok (.iadd, 1) := by decide +kernel
theorem dX7_join_13 : decode cX7_join 13 = .ok (.ireturn, 1) := by decide +kernel
theorem dX7_raw_0 : decode cX7_raw 0 = .ok (.aload_n 0, 1) := by decide +kernel
theorem dX7_raw_1 : decode cX7_raw 1 = .ok (.getfield 29, 3) := by decide +kernel
theorem dX7_raw_4 : decode cX7_raw 4 = .ok (.iload_n 1, 1) := by decide +kernel
theorem dX7_raw_5 : decode cX7_raw 5 = .ok (.iaload, 1) := by decide +kernel
theorem dX7_raw_6 : decode cX7_raw 6 = .ok (.aload_n 0, 1) := by decide +kernel
theorem dX7_raw_7 : decode cX7_raw 7 = .ok (.getfield 32, 3) := by decide +kernel
theorem dX7_raw_10 : decode cX7_raw 10 = .ok (.iload_n 2, 1) := by decide +kernel
theorem dX7_raw_11 : decode cX7_raw 11 = .ok (.iaload, 1) := by decide +kernel
theorem dX7_raw_12 : decode cX7_raw 12 = .ok (.invokestatic 95, 3) := by decide +kernel
theorem dX7_raw_15 : decode cX7_raw 15 = .ok (.ireturn, 1) := by decide +kernel
theorem dX7_madeBy_0 : decode cX7_madeBy 0 = .ok (.aload_n 1, 1) := by decide +kernel
theorem dX7_madeBy_1 : decode cX7_madeBy 1 = .ok (.aload_n 0, 1) := by decide +kernel
theorem dX7_madeBy_2 : decode cX7_madeBy 2 = .ok (.iload_n 2, 1) := by decide +kernel
theorem dX7_madeBy_3 : decode cX7_madeBy 3 = .ok (.iload_n 3, 1) := by decide +kernel
theorem dX7_madeBy_4 : decode cX7_madeBy 4 = .ok (.invokevirtual 98, 3) := by decide +kernel
theorem dX7_madeBy_7 : decode cX7_madeBy 7 = .ok (.aload_n 0, 1) := by decide +kernel
theorem dX7_madeBy_8 : decode cX7_madeBy 8 = .ok (.getfield 101, 3) := by decide +kernel
theorem dX7_madeBy_11 : decode cX7_madeBy 11 = .ok (.iload 4, 2) := by decide +kernel
theorem dX7_madeBy_13 : decode cX7_madeBy 13 = .ok (.invokestatic 105, 3) := by decide +kernel
theorem dX7_madeBy_16 : decode cX7_madeBy 16 = .ok (.ireturn, 1) := by decide +kernel
theorem dX7_isRoot_0 : decode cX7_isRoot 0 = .ok (.iload_n 1, 1) := by decide +kernel
theorem dX7_isRoot_1 : decode cX7_isRoot 1 = .ok (.i2l, 1) := by decide +kernel
theorem dX7_isRoot_2 : decode cX7_isRoot 2 = .ok (.lconst 0, 1) := by decide +kernel
theorem dX7_isRoot_3 : decode cX7_isRoot 3 = .ok (.aload_n 0, 1) := by decide +kernel
theorem dX7_isRoot_4 : decode cX7_isRoot 4 = .ok (.getfield 109, 3) := by decide +kernel
theorem dX7_isRoot_7 : decode cX7_isRoot 7 = .ok (.iconst 1, 1) := by decide +kernel
theorem dX7_isRoot_8 : decode cX7_isRoot 8 = .ok (.isub, 1) := by decide +kernel
theorem dX7_isRoot_9 : decode cX7_isRoot 9 = .ok (.i2l, 1) := by decide +kernel
theorem dX7_isRoot_10 : decode cX7_isRoot 10 = .ok (.invokestatic 78, 3) := by decide +kernel
theorem dX7_isRoot_13 : decode cX7_isRoot 13 = .ok (.ireturn, 1) := by decide +kernel
theorem dX7_isEnding_0 : decode cX7_isEnding 0 = .ok (.iload_n 1, 1) := by decide +kernel
theorem dX7_isEnding_1 : decode cX7_isEnding 1 = .ok (.i2l, 1) := by decide +kernel
theorem dX7_isEnding_2 : decode cX7_isEnding 2 = .ok (.lconst 0, 1) := by decide +kernel
theorem dX7_isEnding_3 : decode cX7_isEnding 3 = .ok (.aload_n 0, 1) := by decide +kernel
theorem dX7_isEnding_4 : decode cX7_isEnding 4 = .ok (.getfield 112, 3) := by decide +kernel
theorem dX7_isEnding_7 : decode cX7_isEnding 7 = .ok (.iconst 1, 1) := by decide +kernel
theorem dX7_isEnding_8 : decode cX7_isEnding 8 = .ok (.isub, 1) := by decide +kernel
theorem dX7_isEnding_9 : decode cX7_isEnding 9 = .ok (.i2l, 1) := by decide +kernel
theorem dX7_isEnding_10 : decode cX7_isEnding 10 = .ok (.invokestatic 78, 3) := by decide +kernel
theorem dX7_isEnding_13 : decode cX7_isEnding 13 = .ok (.ireturn, 1) := by decide +kernel
theorem dX7_isChange_0 : decode cX7_isChange 0 = .ok (.iload_n 1, 1) := by decide +kernel
theorem dX7_isChange_1 : decode cX7_isChange 1 = .ok (.i2l, 1) := by decide +kernel
theorem dX7_isChange_2 : decode cX7_isChange 2 = .ok (.lconst 0, 1) := by decide +kernel
theorem dX7_isChange_3 : decode cX7_isChange 3 = .ok (.aload_n 0, 1) := by decide +kernel
theorem dX7_isChange_4 : decode cX7_isChange 4 = .ok (.getfield 101, 3) := by decide +kernel
theorem dX7_isChange_7 : decode cX7_isChange 7 = .ok (.iconst 1, 1) := by decide +kernel
theorem dX7_isChange_8 : decode cX7_isChange 8 = .ok (.isub, 1) := by decide +kernel
theorem dX7_isChange_9 : decode cX7_isChange 9 = .ok (.i2l, 1) := by decide +kernel
theorem dX7_isChange_10 : decode cX7_isChange 10 = .ok (.invokestatic 78, 3) := by decide +kernel
theorem dX7_isChange_13 : decode cX7_isChange 13 = .ok (.ireturn, 1) := by decide +kernel
theorem dX7_write_0 : decode cX7_write 0 = .ok (.iload_n 1, 1) := by decide +kernel
theorem dX7_write_1 : decode cX7_write 1 = .ok (.i2l, 1) := by decide +kernel
theorem dX7_write_2 : decode cX7_write 2 = .ok (.lconst 0, 1) := by decide +kernel
theorem dX7_write_3 : decode cX7_write 3 = .ok (.ldc2_w 115, 3) := by decide +kernel
theorem dX7_write_6 : decode cX7_write 6 = .ok (.invokestatic 78, 3) := by decide +kernel
theorem dX7_write_9 : decode cX7_write 9 = .ok (.ifCond .ne 6, 3) := by decide +kernel
theorem dX7_write_12 : decode cX7_write 12 = .ok (.bipush (-2), 2) := by decide +kernel
theorem dX7_write_14 : decode cX7_write 14 = .ok (.ireturn, 1) := by decide +kernel
theorem dX7_write_15 : decode cX7_write 15 = .ok (.aload_n 0, 1) := by decide +kernel
theorem dX7_write_16 : decode cX7_write 16 = .ok (.getfield 117, 3) := by decide +kernel
theorem dX7_write_19 : decode cX7_write 19 = .ok (.bipush 60, 2) := by decide +kernel
theorem dX7_write_21 : decode cX7_write 21 = .ok (.if_icmp .ne 6, 3) := by decide +kernel
theorem dX7_write_24 : decode cX7_write 24 = .ok (.bipush (-4), 2) := by decide +kernel
theorem dX7_write_26 : decode cX7_write 26 = .ok (.ireturn, 1) := by decide +kernel
theorem dX7_write_27 : decode cX7_write 27 = .ok (.aload_n 0, 1) := by decide +kernel
theorem dX7_write_28 : decode cX7_write 28 = .ok (.getfield 7, 3) := by decide +kernel
theorem dX7_write_31 : decode cX7_write 31 = .ok (.aload_n 0, 1) := by decide +kernel
theorem dX7_write_32 : decode cX7_write 32 = .ok (.getfield 117, 3) := by decide +kernel
theorem dX7_write_35 : decode cX7_write 35 = .ok (.iload_n 1, 1) := by decide +kernel
theorem dX7_write_36 : decode cX7_write 36 = .ok (.iastore, 1) := by decide +kernel
theorem dX7_write_37 : decode cX7_write 37 = .ok (.aload_n 0, 1) := by decide +kernel
theorem dX7_write_38 : decode cX7_write 38 = .ok (.dup, 1) := by decide +kernel
theorem dX7_write_39 : decode cX7_write 39 = .ok (.getfield 117, 3) := by decide +kernel
theorem dX7_write_42 : decode cX7_write 42 = .ok (.iconst 1, 1) := by decide +kernel
theorem dX7_write_43 : decode cX7_write 43 = .ok (.iadd, 1) := by decide +kernel
theorem dX7_write_44 : decode cX7_write 44 = .ok (.putfield 117, 3) := by decide +kernel
theorem dX7_write_47 : decode cX7_write 47 = .ok (.aload_n 0, 1) := by decide +kernel
theorem dX7_write_48 : decode cX7_write 48 = .ok (.getfield 117, 3) := by decide +kernel
theorem dX7_write_51 : decode cX7_write 51 = .ok (.ireturn, 1) := by decide +kernel
theorem dX7_wipe_0 : decode cX7_wipe 0 = .ok (.aload_n 0, 1) := by decide +kernel
theorem dX7_wipe_1 : decode cX7_wipe 1 = .ok (.getfield 117, 3) := by decide +kernel
theorem dX7_wipe_4 : decode cX7_wipe 4 = .ok (.istore_n 1, 1) := by decide +kernel
theorem dX7_wipe_5 : decode cX7_wipe 5 = .ok (.aload_n 0, 1) := by decide +kernel
theorem dX7_wipe_6 : decode cX7_wipe 6 = .ok (.iconst 0, 1) := by decide +kernel
theorem dX7_wipe_7 : decode cX7_wipe 7 = .ok (.putfield 117, 3) := by decide +kernel
theorem dX7_wipe_10 : decode cX7_wipe 10 = .ok (.iload_n 1, 1) := by decide +kernel
theorem dX7_wipe_11 : decode cX7_wipe 11 = .ok (.ireturn, 1) := by decide +kernel
theorem dX7_begun_0 : decode cX7_begun 0 = .ok (.iload_n 1, 1) := by decide +kernel
theorem dX7_begun_1 : decode cX7_begun 1 = .ok (.bipush 82, 2) := by decide +kernel
theorem dX7_begun_3 : decode cX7_begun 3 = .ok (.if_icmp .ne 13, 3) := by decide +kernel
theorem dX7_begun_6 : decode cX7_begun 6 = .ok (.aload_n 0, 1) := by decide +kernel
theorem dX7_begun_7 : decode cX7_begun 7 = .ok (.getfield 120, 3) := by decide +kernel
theorem dX7_begun_10 : decode cX7_begun 10 = .ok (.iconst 4, 1) := by decide +kernel
theorem dX7_begun_11 : decode cX7_begun 11 = .ok (.if_icmp .ge 5, 3) := by decide +kernel
theorem dX7_begun_14 : decode cX7_begun 14 = .ok (.iconst 1, 1) := by decide +kernel
theorem dX7_begun_15 : decode cX7_begun 15 = .ok (.ireturn, 1) := by decide +kernel
theorem dX7_begun_16 : decode cX7_begun 16 = .ok (.iload_n 1, 1) := by decide +kernel
theorem dX7_begun_17 : decode cX7_begun 17 = .ok (.bipush 69, 2) := by decide +kernel
theorem dX7_begun_19 : decode cX7_begun 19 = .ok (.if_icmp .ne 13, 3) := by decide +kernel
theorem dX7_begun_22 : decode cX7_begun 22 = .ok (.aload_n 0, 1) := by decide +kernel
theorem dX7_begun_23 : decode cX7_begun 23 = .ok (.getfield 123, 3) := by decide +kernel
theorem dX7_begun_26 : decode cX7_begun 26 = .ok (.iconst 3, 1) := by decide +kernel
theorem dX7_begun_27 : decode cX7_begun 27 = .ok (.if_icmp .ge 5, 3) := by decide +kernel
theorem dX7_begun_30 : decode cX7_begun 30 = .ok (.iconst 2, 1) := by decide +kernel
theorem dX7_begun_31 : decode cX7_begun 31 = .ok (.ireturn, 1) := by decide +kernel
theorem dX7_begun_32 : decode cX7_begun 32 = .ok (.iload_n 1, 1) := by decide +kernel
theorem dX7_begun_33 : decode cX7_begun 33 = .ok (.bipush 67, 2) := by decide +kernel
theorem dX7_begun_35 : decode cX7_begun 35 = .ok (.if_icmp .ne 15, 3) := by decide +kernel
theorem dX7_begun_38 : decode cX7_begun 38 = .ok (.aload_n 0, 1) := by decide +kernel
theorem dX7_begun_39 : decode cX7_begun 39 = .ok (.getfield 126, 3) := by decide +kernel
theorem dX7_begun_42 : decode cX7_begun 42 = .ok (.iconst 4, 1) := by decide +kernel
theorem dX7_begun_43 : decode cX7_begun 43 = .ok (.if_icmp .ge 7, 3) := by decide +kernel
theorem dX7_begun_46 : decode cX7_begun 46 = .ok (.iconst 3, 1) := by decide +kernel
theorem dX7_begun_47 : decode cX7_begun 47 = .ok (.goto 4, 3) := by decide +kernel
theorem dX7_begun_50 : decode cX7_begun 50 = .ok (.iconst 0, 1) := by decide +kernel
theorem dX7_begun_51 : decode cX7_begun 51 = .ok (.ireturn, 1) := by decide +kernel
theorem dX7_isLetter_0 : decode cX7_isLetter 0 = .ok (.iload_n 0, 1) := by decide +kernel
theorem dX7_isLetter_1 : decode cX7_isLetter 1 = .ok (.i2l, 1) := by decide +kernel
theorem dX7_isLetter_2 : decode cX7_isLetter 2 = .ok (.ldc2_w 129, 3) := by decide +kernel
theorem dX7_isLetter_5 : decode cX7_isLetter 5 = .ok (.ldc2_w 131, 3) := by decide +kernel
theorem dX7_isLetter_8 : decode cX7_isLetter 8 = .ok (.invokestatic 78, 3) := by decide +kernel
theorem dX7_isLetter_11 : decode cX7_isLetter 11 = .ok (.ireturn, 1) := by decide +kernel
theorem dX7_signOf_0 : decode cX7_signOf 0 = .ok (.iload_n 0, 1) := by decide +kernel
theorem dX7_signOf_1 : decode cX7_signOf 1 = .ok (.invokestatic 133, 3) := by decide +kernel
theorem dX7_signOf_4 : decode cX7_signOf 4 = .ok (.ifCond .eq 8, 3) := by decide +kernel
theorem dX7_signOf_7 : decode cX7_signOf 7 = .ok (.iload_n 0, 1) := by decide +kernel
theorem dX7_signOf_8 : decode cX7_signOf 8 = .ok (.bipush 96, 2) := by decide +kernel
theorem dX7_signOf_10 : decode cX7_signOf 10 = .ok (.isub, 1) := by decide +kernel
theorem dX7_signOf_11 : decode cX7_signOf 11 = .ok (.ireturn, 1) := by decide +kernel
theorem dX7_signOf_12 : decode cX7_signOf 12 = .ok (.iload_n 1, 1) := by decide +kernel
theorem dX7_signOf_13 : decode cX7_signOf 13 = .ok (.iconst 1, 1) := by decide +kernel
theorem dX7_signOf_14 : decode cX7_signOf 14 = .ok (.if_icmp .ne 16, 3) := by decide +kernel
theorem dX7_signOf_17 : decode cX7_signOf 17 = .ok (.iload_n 0, 1) := by decide +kernel
theorem dX7_signOf_18 : decode cX7_signOf 18 = .ok (.bipush 45, 2) := by decide +kernel
theorem dX7_signOf_20 : decode cX7_signOf 20 = .ok (.if_icmp .ne 7, 3) := by decide +kernel
theorem dX7_signOf_23 : decode cX7_signOf 23 = .ok (.iconst 0, 1) := by decide +kernel
theorem dX7_signOf_24 : decode cX7_signOf 24 = .ok (.goto 5, 3) := by decide +kernel
theorem dX7_signOf_27 : decode cX7_signOf 27 = .ok (.bipush (-9), 2) := by decide +kernel
theorem dX7_signOf_29 : decode cX7_signOf 29 = .ok (.ireturn, 1) := by decide +kernel
theorem dX7_signOf_30 : decode cX7_signOf 30 = .ok (.iload_n 1, 1) := by decide +kernel
theorem dX7_signOf_31 : decode cX7_signOf 31 = .ok (.ifCond .ne 6, 3) := by decide +kernel
theorem dX7_signOf_34 : decode cX7_signOf 34 = .ok (.bipush (-9), 2) := by decide +kernel
theorem dX7_signOf_36 : decode cX7_signOf 36 = .ok (.ireturn, 1) := by decide +kernel
theorem dX7_signOf_37 : decode cX7_signOf 37 = .ok (.iload_n 0, 1) := by decide +kernel
theorem dX7_signOf_38 : decode cX7_signOf 38 = .ok (.bipush 42, 2) := by decide +kernel
theorem dX7_signOf_40 : decode cX7_signOf 40 = .ok (.if_icmp .ne 8, 3) := by decide +kernel
theorem dX7_signOf_43 : decode cX7_signOf 43 = .ok (.bipush 6, 2) := by decide +kernel
theorem dX7_signOf_45 : decode cX7_signOf 45 = .ok (.goto 16, 3) := by decide +kernel
theorem dX7_signOf_48 : decode cX7_signOf 48 = .ok (.iload_n 0, 1) := by decide +kernel
theorem dX7_signOf_49 : decode cX7_signOf 49 = .ok (.bipush 46, 2) := by decide +kernel
theorem dX7_signOf_51 : decode cX7_signOf 51 = .ok (.if_icmp .ne 8, 3) := by decide +kernel
theorem dX7_signOf_54 : decode cX7_signOf 54 = .ok (.bipush 7, 2) := by decide +kernel
theorem dX7_signOf_56 : decode cX7_signOf 56 = .ok (.goto 5, 3) := by decide +kernel
theorem dX7_signOf_59 : decode cX7_signOf 59 = .ok (.bipush (-9), 2) := by decide +kernel
theorem dX7_signOf_61 : decode cX7_signOf 61 = .ok (.ireturn, 1) := by decide +kernel
theorem dX7_mostOf_0 : decode cX7_mostOf 0 = .ok (.iload_n 0, 1) := by decide +kernel
theorem dX7_mostOf_1 : decode cX7_mostOf 1 = .ok (.iconst 1, 1) := by decide +kernel
theorem dX7_mostOf_2 : decode cX7_mostOf 2 = .ok (.if_icmp .ne 7, 3) := by decide +kernel
theorem dX7_mostOf_5 : decode cX7_mostOf 5 = .ok (.iconst 4, 1) := by decide +kernel
theorem dX7_mostOf_6 : decode cX7_mostOf 6 = .ok (.goto 22, 3) := by decide +kernel
theorem dX7_mostOf_9 : decode cX7_mostOf 9 = .ok (.iload_n 0, 1) := by decide +kernel
theorem dX7_mostOf_10 : decode cX7_mostOf 10 = .ok (.iconst 2, 1) := by decide +kernel
theorem dX7_mostOf_11 : decode cX7_mostOf 11 = .ok (.if_icmp .ne 7, 3) := by decide +kernel
theorem dX7_mostOf_14 : decode cX7_mostOf 14 = .ok (.iconst 2, 1) := by decide +kernel
theorem dX7_mostOf_15 : decode cX7_mostOf 15 = .ok (.goto 13, 3) := by decide +kernel
theorem dX7_mostOf_18 : decode cX7_mostOf 18 = .ok (.iload_n 0, 1) := by decide +kernel
theorem dX7_mostOf_19 : decode cX7_mostOf 19 = .ok (.iconst 3, 1) := by decide +kernel
theorem dX7_mostOf_20 : decode cX7_mostOf 20 = .ok (.if_icmp .ne 7, 3) := by decide +kernel
theorem dX7_mostOf_23 : decode cX7_mostOf 23 = .ok (.iconst 4, 1) := by decide +kernel
theorem dX7_mostOf_24 : decode cX7_mostOf 24 = .ok (.goto 4, 3) := by decide +kernel
theorem dX7_mostOf_27 : decode cX7_mostOf 27 = .ok (.iconst 0, 1) := by decide +kernel
theorem dX7_mostOf_28 : decode cX7_mostOf 28 = .ok (.ireturn, 1) := by decide +kernel
theorem dX7_mayEnd_0 : decode cX7_mayEnd 0 = .ok (.iload_n 0, 1) := by decide +kernel
theorem dX7_mayEnd_1 : decode cX7_mayEnd 1 = .ok (.ifCond .eq 20, 3) := by decide +kernel
theorem dX7_mayEnd_4 : decode cX7_mayEnd 4 = .ok (.iload_n 0, 1) := by decide +kernel
theorem dX7_mayEnd_5 : decode cX7_mayEnd 5 = .ok (.iconst 3, 1) := by decide +kernel
theorem dX7_mayEnd_6 : decode cX7_mayEnd 6 = .ok (.if_icmp .ne 11, 3) := by decide +kernel
theorem dX7_mayEnd_9 : decode cX7_mayEnd 9 = .ok (.iload_n 1, 1) := by decide +kernel
theorem dX7_mayEnd_10 : decode cX7_mayEnd 10 = .ok (.iconst 4, 1) := by decide +kernel
theorem dX7_mayEnd_11 : decode cX7_mayEnd 11 = .ok (.if_icmp .ne 14, 3) := by decide +kernel
theorem dX7_mayEnd_14 : decode cX7_mayEnd 14 = .ok (.goto 7, 3) := by decide +kernel
theorem dX7_mayEnd_17 : decode cX7_mayEnd 17 = .ok (.iload_n 1, 1) := by decide +kernel
theorem dX7_mayEnd_18 : decode cX7_mayEnd 18 = .ok (.ifCond .le 7, 3) := by decide +kernel
theorem dX7_mayEnd_21 : decode cX7_mayEnd 21 = .ok (.iconst 1, 1) := by decide +kernel
theorem dX7_mayEnd_22 : decode cX7_mayEnd 22 = .ok (.goto 4, 3) := by decide +kernel
theorem dX7_mayEnd_25 : decode cX7_mayEnd 25 = .ok (.iconst 0, 1) := by decide +kernel
theorem dX7_mayEnd_26 : decode cX7_mayEnd 26 = .ok (.ireturn, 1) := by decide +kernel
theorem dX7_begin_0 : decode cX7_begin 0 = .ok (.aload_n 0, 1) := by decide +kernel
theorem dX7_begin_1 : decode cX7_begin 1 = .ok (.dup, 1) := by decide +kernel
theorem dX7_begin_2 : decode cX7_begin 2 = .ok (.getfield 137, 3) := by decide +kernel
theorem dX7_begin_5 : decode cX7_begin 5 = .ok (.iconst 1, 1) := by decide +kernel
theorem dX7_begin_6 : decode cX7_begin 6 = .ok (.iadd, 1) := by decide +kernel
theorem dX7_begin_7 : decode cX7_begin 7 = .ok (.putfield 137, 3) := by decide +kernel
theorem dX7_begin_10 : decode cX7_begin 10 = .ok (.iload_n 1, 1) := by decide +kernel
theorem dX7_begin_11 : decode cX7_begin 11 = .ok (.iconst 1, 1) := by decide +kernel
theorem dX7_begin_12 : decode cX7_begin 12 = .ok (.if_icmp .ne 26, 3) := by decide +kernel
theorem dX7_begin_15 : decode cX7_begin 15 = .ok (.aload_n 0, 1) := by decide +kernel
theorem dX7_begin_16 : decode cX7_begin 16 = .ok (.getfield 35, 3) := by decide +kernel
theorem dX7_begin_19 : decode cX7_begin 19 = .ok (.aload_n 0, 1) := by decide +kernel
theorem dX7_begin_20 : decode cX7_begin 20 = .ok (.getfield 120, 3) := by decide +kernel
theorem dX7_begin_23 : decode cX7_begin 23 = .ok (.iconst 0, 1) := by decide +kernel
theorem dX7_begin_24 : decode cX7_begin 24 = .ok (.iastore, 1) := by decide +kernel
theorem dX7_begin_25 : decode cX7_begin 25 = .ok (.aload_n 0, 1) := by decide +kernel
theorem dX7_begin_26 : decode cX7_begin 26 = .ok (.dup, 1) := by decide +kernel
theorem dX7_begin_27 : decode cX7_begin 27 = .ok (.getfield 120, 3) := by decide +kernel
theorem dX7_begin_30 : decode cX7_begin 30 = .ok (.iconst 1, 1) := by decide +kernel
theorem dX7_begin_31 : decode cX7_begin 31 = .ok (.iadd, 1) := by decide +kernel
theorem dX7_begin_32 : decode cX7_begin 32 = .ok (.putfield 120, 3) := by decide +kernel
theorem dX7_begin_35 : decode cX7_begin 35 = .ok (.goto 41, 3) := by decide +kernel
theorem dX7_begin_38 : decode cX7_begin 38 = .ok (.iload_n 1, 1) := by decide +kernel
theorem dX7_begin_39 : decode cX7_begin 39 = .ok (.iconst 2, 1) := by decide +kernel
theorem dX7_begin_40 : decode cX7_begin 40 = .ok (.if_icmp .ne 26, 3) := by decide +kernel
theorem dX7_begin_43 : decode cX7_begin 43 = .ok (.aload_n 0, 1) := by decide +kernel
theorem dX7_begin_44 : decode cX7_begin 44 = .ok (.getfield 38, 3) := by decide +kernel
theorem dX7_begin_47 : decode cX7_begin 47 = .ok (.aload_n 0, 1) := by decide +kernel
theorem dX7_begin_48 : decode cX7_begin 48 = .ok (.getfield 123, 3) := by decide +kernel
theorem dX7_begin_51 : decode cX7_begin 51 = .ok (.iconst 0, 1) := by decide +kernel
theorem dX7_begin_52 : decode cX7_begin 52 = .ok (.iastore, 1) := by decide +kernel
theorem dX7_begin_53 : decode cX7_begin 53 = .ok (.aload_n 0, 1) := by decide +kernel
theorem dX7_begin_54 : decode cX7_begin 54 = .ok (.dup, 1) := by decide +kernel
theorem dX7_begin_55 : decode cX7_begin 55 = .ok (.getfield 123, 3) := by decide +kernel
theorem dX7_begin_58 : decode cX7_begin 58 = .ok (.iconst 1, 1) := by decide +kernel
theorem dX7_begin_59 : decode cX7_begin 59 = .ok (.iadd, 1) := by decide +kernel
theorem dX7_begin_60 : decode cX7_begin 60 = .ok (.putfield 123, 3) := by decide +kernel
theorem dX7_begin_63 : decode cX7_begin 63 = .ok (.goto 13, 3) := by decide +kernel
theorem dX7_begin_66 : decode cX7_begin 66 = .ok (.aload_n 0, 1) := by decide +kernel
theorem dX7_begin_67 : decode cX7_begin 67 = .ok (.dup, 1) := by decide +kernel
theorem dX7_begin_68 : decode cX7_begin 68 = .ok (.getfield 126, 3) := by decide +kernel
theorem dX7_begin_71 : decode cX7_begin 71 = .ok (.iconst 1, 1) := by decide +kernel
theorem dX7_begin_72 : decode cX7_begin 72 = .ok (.iadd, 1) := by decide +kernel
theorem dX7_begin_73 : decode cX7_begin 73 = .ok (.putfield 126, 3) := by decide +kernel
theorem dX7_begin_76 : decode cX7_begin 76 = .ok (.return_, 1) := by decide +kernel
theorem dX7_take_0 : decode cX7_take 0 = .ok (.iload_n 2, 1) := by decide +kernel
theorem dX7_take_1 : decode cX7_take 1 = .ok (.iload_n 1, 1) := by decide +kernel
theorem dX7_take_2 : decode cX7_take 2 = .ok (.invokestatic 140, 3) := by decide +kernel
theorem dX7_take_5 : decode cX7_take 5 = .ok (.if_icmp .lt 5, 3) := by decide +kernel
theorem dX7_take_8 : decode cX7_take 8 = .ok (.iconst 0, 1) := by decide +kernel
theorem dX7_take_9 : decode cX7_take 9 = .ok (.ireturn, 1) := by decide +kernel
theorem dX7_take_10 : decode cX7_take 10 = .ok (.iload_n 1, 1) := by decide +kernel
theorem dX7_take_11 : decode cX7_take 11 = .ok (.iconst 3, 1) := by decide +kernel
theorem dX7_take_12 : decode cX7_take 12 = .ok (.if_icmp .ne 11, 3) := by decide +kernel
theorem dX7_take_15 : decode cX7_take 15 = .ok (.iload_n 3, 1) := by decide +kernel
theorem dX7_take_16 : decode cX7_take 16 = .ok (.iload_n 2, 1) := by decide +kernel
theorem dX7_take_17 : decode cX7_take 17 = .ok (.invokestatic 143, 3) := by decide +kernel
theorem dX7_take_20 : decode cX7_take 20 = .ok (.goto 19, 3) := by decide +kernel
theorem dX7_take_23 : decode cX7_take 23 = .ok (.iload_n 3, 1) := by decide +kernel
theorem dX7_take_24 : decode cX7_take 24 = .ok (.invokestatic 133, 3) := by decide +kernel
theorem dX7_take_27 : decode cX7_take 27 = .ok (.ifCond .eq 10, 3) := by decide +kernel
theorem dX7_take_30 : decode cX7_take 30 = .ok (.iload_n 3, 1) := by decide +kernel
theorem dX7_take_31 : decode cX7_take 31 = .ok (.bipush 96, 2) := by decide +kernel
theorem dX7_take_33 : decode cX7_take 33 = .ok (.isub, 1) := by decide +kernel
theorem dX7_take_34 : decode cX7_take 34 = .ok (.goto 5, 3) := by decide +kernel
theorem dX7_take_37 : decode cX7_take 37 = .ok (.bipush (-9), 2) := by decide +kernel
theorem dX7_take_39 : decode cX7_take 39 = .ok (.istore 4, 2) := by decide +kernel
theorem dX7_take_41 : decode cX7_take 41 = .ok (.iload 4, 2) := by decide +kernel
theorem dX7_take_43 : decode cX7_take 43 = .ok (.bipush (-9), 2) := by decide +kernel
theorem dX7_take_45 : decode cX7_take 45 = .ok (.if_icmp .ne 5, 3) := by decide +kernel
theorem dX7_take_48 : decode cX7_take 48 = .ok (.iconst 0, 1) := by decide +kernel
theorem dX7_take_49 : decode cX7_take 49 = .ok (.ireturn, 1) := by decide +kernel
theorem dX7_take_50 : decode cX7_take 50 = .ok (.iload_n 1, 1) := by decide +kernel
theorem dX7_take_51 : decode cX7_take 51 = .ok (.iconst 1, 1) := by decide +kernel
theorem dX7_take_52 : decode cX7_take 52 = .ok (.if_icmp .ne 34, 3) := by decide +kernel
theorem dX7_take_55 : decode cX7_take 55 = .ok (.aload_n 0, 1) := by decide +kernel
theorem dX7_take_56 : decode cX7_take 56 = .ok (.getfield 35, 3) := by decide +kernel
theorem dX7_take_59 : decode cX7_take 59 = .ok (.aload_n 0, 1) := by decide +kernel
theorem dX7_take_60 : decode cX7_take 60 = .ok (.getfield 120, 3) := by decide +kernel
theorem dX7_take_63 : decode cX7_take 63 = .ok (.iconst 1, 1) := by decide +kernel
theorem dX7_take_64 : decode cX7_take 64 = .ok (.isub, 1) := by decide +kernel
theorem dX7_take_65 : decode cX7_take 65 = .ok (.bipush 10, 2) := by decide +kernel
theorem dX7_take_67 : decode cX7_take 67 = .ok (.aload_n 0, 1) := by decide +kernel
theorem dX7_take_68 : decode cX7_take 68 = .ok (.getfield 35, 3) := by decide +kernel
theorem dX7_take_71 : decode cX7_take 71 = .ok (.aload_n 0, 1) := by decide +kernel
theorem dX7_take_72 : decode cX7_take 72 = .ok (.getfield 120, 3) := by decide +kernel
theorem dX7_take_75 : decode cX7_take 75 = .ok (.iconst 1, 1) := by decide +kernel
theorem dX7_take_76 : decode cX7_take 76 = .ok (.isub, 1) := by decide +kernel
theorem dX7_take_77 : decode cX7_take 77 = .ok (.iaload, 1) := by decide +kernel
theorem dX7_take_78 : decode cX7_take 78 = .ok (.imul, 1) := by decide +kernel
theorem dX7_take_79 : decode cX7_take 79 = .ok (.iload 4, 2) := by decide +kernel
theorem dX7_take_81 : decode cX7_take 81 = .ok (.iadd, 1) := by decide +kernel
theorem dX7_take_82 : decode cX7_take 82 = .ok (.iastore, 1) := by decide +kernel
theorem dX7_take_83 : decode cX7_take 83 = .ok (.goto 56, 3) := by decide +kernel
theorem dX7_take_86 : decode cX7_take 86 = .ok (.iload_n 1, 1) := by decide +kernel
theorem dX7_take_87 : decode cX7_take 87 = .ok (.iconst 2, 1) := by decide +kernel
theorem dX7_take_88 : decode cX7_take 88 = .ok (.if_icmp .ne 34, 3) := by decide +kernel
theorem dX7_take_91 : decode cX7_take 91 = .ok (.aload_n 0, 1) := by decide +kernel
theorem dX7_take_92 : decode cX7_take 92 = .ok (.getfield 38, 3) := by decide +kernel
theorem dX7_take_95 : decode cX7_take 95 = .ok (.aload_n 0, 1) := by decide +kernel
theorem dX7_take_96 : decode cX7_take 96 = .ok (.getfield 123, 3) := by decide +kernel
theorem dX7_take_99 : decode cX7_take 99 = .ok (.iconst 1, 1) := by decide +kernel
theorem dX7_take_100 : decode cX7_take 100 = .ok (.isub, 1) := by decide +kernel
theorem dX7_take_101 : decode cX7_take 101 = .ok (.bipush 10, 2) := by decide +kernel
theorem dX7_take_103 : decode cX7_take 103 = .ok (.aload_n 0, 1) := by decide +kernel
theorem dX7_take_104 : decode cX7_take 104 = .ok (.getfield 38, 3) := by decide +kernel
theorem dX7_take_107 : decode cX7_take 107 = .ok (.aload_n 0, 1) := by decide +kernel
theorem dX7_take_108 : decode cX7_take 108 = .ok (.getfield 123, 3) := by decide +kernel
theorem dX7_take_111 : decode cX7_take 111 = .ok (.iconst 1, 1) := by decide +kernel
theorem dX7_take_112 : decode cX7_take 112 = .ok (.isub, 1) := by decide +kernel
theorem dX7_take_113 : decode cX7_take 113 = .ok (.iaload, 1) := by decide +kernel
theorem dX7_take_114 : decode cX7_take 114 = .ok (.imul, 1) := by decide +kernel
theorem dX7_take_115 : decode cX7_take 115 = .ok (.iload 4, 2) := by decide +kernel
theorem dX7_take_117 : decode cX7_take 117 = .ok (.iadd, 1) := by decide +kernel
theorem dX7_take_118 : decode cX7_take 118 = .ok (.iastore, 1) := by decide +kernel
theorem dX7_take_119 : decode cX7_take 119 = .ok (.goto 20, 3) := by decide +kernel
theorem dX7_take_122 : decode cX7_take 122 = .ok (.aload_n 0, 1) := by decide +kernel
theorem dX7_take_123 : decode cX7_take 123 = .ok (.getfield 41, 3) := by decide +kernel
theorem dX7_take_126 : decode cX7_take 126 = .ok (.iconst 4, 1) := by decide +kernel
theorem dX7_take_127 : decode cX7_take 127 = .ok (.aload_n 0, 1) := by decide +kernel
theorem dX7_take_128 : decode cX7_take 128 = .ok (.getfield 126, 3) := by decide +kernel
theorem dX7_take_131 : decode cX7_take 131 = .ok (.iconst 1, 1) := by decide +kernel
theorem dX7_take_132 : decode cX7_take 132 = .ok (.isub, 1) := by decide +kernel
theorem dX7_take_133 : decode cX7_take 133 = .ok (.imul, 1) := by decide +kernel
theorem dX7_take_134 : decode cX7_take 134 = .ok (.iload_n 2, 1) := by decide +kernel
theorem dX7_take_135 : decode cX7_take 135 = .ok (.iadd, 1) := by decide +kernel
theorem dX7_take_136 : decode cX7_take 136 = .ok (.iload 4, 2) := by decide +kernel
theorem dX7_take_138 : decode cX7_take 138 = .ok (.iastore, 1) := by decide +kernel
theorem dX7_take_139 : decode cX7_take 139 = .ok (.iconst 1, 1) := by decide +kernel
theorem dX7_take_140 : decode cX7_take 140 = .ok (.ireturn, 1) := by decide +kernel
theorem dX7_readText_0 : decode cX7_readText 0 = .ok (.aload_n 0, 1) := by decide +kernel
theorem dX7_readText_1 : decode cX7_readText 1 = .ok (.iconst 0, 1) := by decide +kernel
theorem dX7_readText_2 : decode cX7_readText 2 = .ok (.putfield 120, 3) := by decide +kernel
theorem dX7_readText_5 : decode cX7_readText 5 = .ok (.aload_n 0, 1) := by decide +kernel
theorem dX7_readText_6 : decode cX7_readText 6 = .ok (.iconst 0, 1) := by decide +kernel
theorem dX7_readText_7 : decode cX7_readText 7 = .ok (.putfield 123, 3) := by decide +kernel
theorem dX7_readText_10 : decode cX7_readText 10 = .ok (.aload_n 0, 1) := by decide +kernel
theorem dX7_readText_11 : decode cX7_readText 11 = .ok (.iconst 0, 1) := by decide +kernel
theorem dX7_readText_12 : decode cX7_readText 12 = .ok (.putfield 126, 3) := by decide +kernel
theorem dX7_readText_15 : decode cX7_readText 15 = .ok (.aload_n 0, 1) := by decide +kernel
theorem dX7_readText_16 : decode cX7_readText 16 = .ok (.iconst 0, 1) := by decide +kernel
theorem dX7_readText_17 : decode cX7_readText 17 = .ok (.putfield 137, 3) := by decide +kernel
theorem dX7_readText_20 : decode cX7_readText 20 = .ok (.aload_n 0, 1) := by decide +kernel
theorem dX7_readText_21 : decode cX7_readText 21 = .ok (.bipush (-9), 2) := by decide +kernel
theorem dX7_readText_23 : decode cX7_readText 23 = .ok (.putfield 146, 3) := by decide +kernel
theorem dX7_readText_26 : decode cX7_readText 26 = .ok (.iconst 0, 1) := by decide +kernel
theorem dX7_readText_27 : decode cX7_readText 27 = .ok (.istore_n 1, 1) := by decide +kernel
theorem dX7_readText_28 : decode cX7_readText 28 = .ok (.iconst 0, 1) := by decide +kernel
theorem dX7_readText_29 : decode cX7_readText 29 = .ok (.istore_n 2, 1) := by decide +kernel
theorem dX7_readText_30 : decode cX7_readText 30 = .ok (.iconst 0, 1) := by decide +kernel
theorem dX7_readText_31 : decode cX7_readText 31 = .ok (.istore_n 3, 1) := by decide +kernel
theorem dX7_readText_32 : decode cX7_readText 32 = .ok (.iload_n 3, 1) := by decide +kernel
theorem dX7_readText_33 : decode cX7_readText 33 = .ok (.aload_n 0, 1) := by decide +kernel
theorem dX7_readText_34 : decode cX7_readText 34 = .ok (.getfield 117, 3) := by decide +kernel
theorem dX7_readText_37 : decode cX7_readText 37 = .ok (.if_icmp .ge 135, 3) := by decide +kernel
theorem dX7_readText_40 : decode cX7_readText 40 = .ok (.iload_n 1, 1) := by decide +kernel
theorem dX7_readText_41 : decode cX7_readText 41 = .ok (.iload_n 2, 1) := by decide +kernel
theorem dX7_readText_42 : decode cX7_readText 42 = .ok (.invokestatic 149, 3) := by decide +kernel
theorem dX7_readText_45 : decode cX7_readText 45 = .ok (.istore 4, 2) := by decide +kernel
theorem dX7_readText_47 : decode cX7_readText 47 = .ok (.iload 4, 2) := by decide +kernel
theorem dX7_readText_49 : decode cX7_readText 49 = .ok (.ifCond .eq 16, 3) := by decide +kernel
theorem dX7_readText_52 : decode cX7_readText 52 = .ok (.aload_n 0, 1) := by decide +kernel
theorem dX7_readText_53 : decode cX7_readText 53 = .ok (.aload_n 0, 1) := by decide +kernel
theorem dX7_readText_54 : decode cX7_readText 54 = .ok (.getfield 7, 3) := by decide +kernel
theorem dX7_readText_57 : decode cX7_readText 57 = .ok (.iload_n 3, 1) := by decide +kernel
theorem dX7_readText_58 : decode cX7_readText 58 = .ok (.iaload, 1) := by decide +kernel
theorem dX7_readText_59 : decode cX7_readText 59 = .ok (.invokevirtual 152, 3) := by decide +kernel
theorem dX7_readText_62 : decode cX7_readText 62 = .ok (.goto 4, 3) := by decide +kernel
theorem dX7_readText_65 : decode cX7_readText 65 = .ok (.iconst 0, 1) := by decide +kernel
theorem dX7_readText_66 : decode cX7_readText 66 = .ok (.istore 5, 2) := by decide +kernel
theorem dX7_readText_68 : decode cX7_readText 68 = .ok (.iload 5, 2) := by decide +kernel
theorem dX7_readText_70 : decode cX7_readText 70 = .ok (.ifCond .le 17, 3) := by decide +kernel
theorem dX7_readText_73 : decode cX7_readText 73 = .ok (.aload_n 0, 1) := by decide +kernel
theorem dX7_readText_74 : decode cX7_readText 74 = .ok (.iload 5, 2) := by decide +kernel
theorem dX7_readText_76 : decode cX7_readText 76 = .ok (.invokevirtual 155, 3) := by decide +kernel
theorem dX7_readText_79 : decode cX7_readText 79 = .ok (.iload 5, 2) := by decide +kernel
theorem dX7_readText_81 : decode cX7_readText 81 = .ok (.istore_n 1, 1) := by decide +kernel
theorem dX7_readText_82 : decode cX7_readText 82 = .ok (.iconst 0, 1) := by decide +kernel
theorem dX7_readText_83 : decode cX7_readText 83 = .ok (.istore_n 2, 1) := by decide +kernel
theorem dX7_readText_84 : decode cX7_readText 84 = .ok (.goto 82, 3) := by decide +kernel
theorem dX7_readText_87 : decode cX7_readText 87 = .ok (.aload_n 0, 1) := by decide +kernel
theorem dX7_readText_88 : decode cX7_readText 88 = .ok (.iload_n 1, 1) := by decide +kernel
theorem dX7_readText_89 : decode cX7_readText 89 = .ok (.iload_n 2, 1) := by decide +kernel
theorem dX7_readText_90 : decode cX7_readText 90 = .ok (.aload_n 0, 1) := by decide +kernel
theorem dX7_readText_91 : decode cX7_readText 91 = .ok (.getfield 7, 3) := by decide +kernel
theorem dX7_readText_94 : decode cX7_readText 94 = .ok (.iload_n 3, 1) := by decide +kernel
theorem dX7_readText_95 : decode cX7_readText 95 = .ok (.iaload, 1) := by decide +kernel
theorem dX7_readText_96 : decode cX7_readText 96 = .ok (.invokevirtual 159, 3) := by decide +kernel
theorem dX7_readText_99 : decode cX7_readText 99 = .ok (.ifCond .eq 9, 3) := by decide +kernel
theorem dX7_readText_102 : decode cX7_readText 102 = .ok (.iinc 2 1, 3) := by decide +kernel
theorem dX7_readText_105 : decode cX7_readText 105 = .ok (.goto 61, 3) := by decide +kernel
theorem dX7_readText_108 : decode cX7_readText 108 = .ok (.iload 4, 2) := by decide +kernel
theorem dX7_readText_110 : decode cX7_readText 110 = .ok (.ifCond .eq 25, 3) := by decide +kernel
theorem dX7_readText_113 : decode cX7_readText 113 = .ok (.iload_n 1, 1) := by decide +kernel
theorem dX7_readText_114 : decode cX7_readText 114 = .ok (.iconst 1, 1) := by decide +kernel
theorem dX7_readText_115 : decode cX7_readText 115 = .ok (.if_icmp .eq 8, 3) := by decide +kernel
theorem dX7_readText_118 : decode cX7_readText 118 = .ok (.iload_n 1, 1) := by decide +kernel
theorem dX7_readText_119 : decode cX7_readText 119 = .ok (.iconst 2, 1) := by decide +kernel
theorem dX7_readText_120 : decode cX7_readText 120 = .ok (.if_icmp .ne 19, 3) := by decide +kernel
theorem dX7_readText_123 : decode cX7_readText 123 = .ok (.aload_n 0, 1) := by decide +kernel
theorem dX7_readText_124 : decode cX7_readText 124 = .ok (.getfield 7, 3) := by decide +kernel
theorem dX7_readText_127 : decode cX7_readText 127 = .ok (.iload_n 3, 1) := by decide +kernel
theorem dX7_readText_128 : decode cX7_readText 128 = .ok (.iaload, 1) := by decide +kernel
theorem dX7_readText_129 : decode cX7_readText 129 = .ok (.invokestatic 133, 3) := by decide +kernel
theorem dX7_readText_132 : decode cX7_readText 132 = .ok (.ifCond .eq 7, 3) := by decide +kernel
theorem dX7_readText_135 : decode cX7_readText 135 = .ok (.iconst 1, 1) := by decide +kernel
theorem dX7_readText_136 : decode cX7_readText 136 = .ok (.goto 4, 3) := by decide +kernel
theorem dX7_readText_139 : decode cX7_readText 139 = .ok (.iconst 0, 1) := by decide +kernel
theorem dX7_readText_140 : decode cX7_readText 140 = .ok (.istore 6, 2) := by decide +kernel
theorem dX7_readText_142 : decode cX7_readText 142 = .ok (.aload_n 0, 1) := by decide +kernel
theorem dX7_readText_143 : decode cX7_readText 143 = .ok (.iload 6, 2) := by decide +kernel
theorem dX7_readText_145 : decode cX7_readText 145 = .ok (.ifCond .eq 12, 3) := by decide +kernel
theorem dX7_readText_148 : decode cX7_readText 148 = .ok (.aload_n 0, 1) := by decide +kernel
theorem dX7_readText_149 : decode cX7_readText 149 = .ok (.getfield 137, 3) := by decide +kernel
theorem dX7_readText_152 : decode cX7_readText 152 = .ok (.iconst 1, 1) := by decide +kernel
theorem dX7_readText_153 : decode cX7_readText 153 = .ok (.isub, 1) := by decide +kernel
theorem dX7_readText_154 : decode cX7_readText 154 = .ok (.goto 7, 3) := by decide +kernel
theorem dX7_readText_157 : decode cX7_readText 157 = .ok (.aload_n 0, 1) := by decide +kernel
theorem dX7_readText_158 : decode cX7_readText 158 = .ok (.getfield 137, 3) := by decide +kernel
theorem dX7_readText_161 : decode cX7_readText 161 = .ok (.putfield 146, 3) := by decide +kernel
theorem dX7_readText_164 : decode cX7_readText 164 = .ok (.iload_n 3, 1) := by decide +kernel
theorem dX7_readText_165 : decode cX7_readText 165 = .ok (.ireturn, 1) := by decide +kernel
theorem dX7_readText_166 : decode cX7_readText 166 = .ok (.iinc 3 1, 3) := by decide +kernel
theorem dX7_readText_169 : decode cX7_readText 169 = .ok (.goto (-137), 3) := by decide +kernel
theorem dX7_readText_172 : decode cX7_readText 172 = .ok (.iload_n 1, 1) := by decide +kernel
theorem dX7_readText_173 : decode cX7_readText 173 = .ok (.iload_n 2, 1) := by decide +kernel
theorem dX7_readText_174 : decode cX7_readText 174 = .ok (.invokestatic 149, 3) := by decide +kernel
theorem dX7_readText_177 : decode cX7_readText 177 = .ok (.ifCond .eq 6, 3) := by decide +kernel
theorem dX7_readText_180 : decode cX7_readText 180 = .ok (.bipush (-9), 2) := by decide +kernel
theorem dX7_readText_182 : decode cX7_readText 182 = .ok (.ireturn, 1) := by decide +kernel
theorem dX7_readText_183 : decode cX7_readText 183 = .ok (.aload_n 0, 1) := by decide +kernel
theorem dX7_readText_184 : decode cX7_readText 184 = .ok (.aload_n 0, 1) := by decide +kernel
theorem dX7_readText_185 : decode cX7_readText 185 = .ok (.getfield 137, 3) := by decide +kernel
theorem dX7_readText_188 : decode cX7_readText 188 = .ok (.iconst 1, 1) := by decide +kernel
theorem dX7_readText_189 : decode cX7_readText 189 = .ok (.isub, 1) := by decide +kernel
theorem dX7_readText_190 : decode cX7_readText 190 = .ok (.putfield 146, 3) := by decide +kernel
theorem dX7_readText_193 : decode cX7_readText 193 = .ok (.aload_n 0, 1) := by decide +kernel
theorem dX7_readText_194 : decode cX7_readText 194 = .ok (.getfield 117, 3) := by decide +kernel
theorem dX7_readText_197 : decode cX7_readText 197 = .ok (.ireturn, 1) := by decide +kernel
theorem dX7_fault_0 : decode cX7_fault 0 = .ok (.iload_n 1, 1) := by decide +kernel
theorem dX7_fault_1 : decode cX7_fault 1 = .ok (.i2l, 1) := by decide +kernel
theorem dX7_fault_2 : decode cX7_fault 2 = .ok (.lconst 0, 1) := by decide +kernel
theorem dX7_fault_3 : decode cX7_fault 3 = .ok (.lconst 1, 1) := by decide +kernel
theorem dX7_fault_4 : decode cX7_fault 4 = .ok (.invokestatic 78, 3) := by decide +kernel
theorem dX7_fault_7 : decode cX7_fault 7 = .ok (.ifCond .ne 6, 3) := by decide +kernel
theorem dX7_fault_10 : decode cX7_fault 10 = .ok (.bipush (-2), 2) := by decide +kernel
theorem dX7_fault_12 : decode cX7_fault 12 = .ok (.ireturn, 1) := by decide +kernel
theorem dX7_fault_13 : decode cX7_fault 13 = .ok (.aload_n 0, 1) := by decide +kernel
theorem dX7_fault_14 : decode cX7_fault 14 = .ok (.invokevirtual 163, 3) := by decide +kernel
theorem dX7_fault_17 : decode cX7_fault 17 = .ok (.istore_n 2, 1) := by decide +kernel
theorem dX7_fault_18 : decode cX7_fault 18 = .ok (.iload_n 1, 1) := by decide +kernel
theorem dX7_fault_19 : decode cX7_fault 19 = .ok (.ifCond .ne 7, 3) := by decide +kernel
theorem dX7_fault_22 : decode cX7_fault 22 = .ok (.iload_n 2, 1) := by decide +kernel
theorem dX7_fault_23 : decode cX7_fault 23 = .ok (.goto 7, 3) := by decide +kernel
theorem dX7_fault_26 : decode cX7_fault 26 = .ok (.aload_n 0, 1) := by decide +kernel
theorem dX7_fault_27 : decode cX7_fault 27 = .ok (.getfield 146, 3) := by decide +kernel
theorem dX7_fault_30 : decode cX7_fault 30 = .ok (.ireturn, 1) := by decide +kernel
theorem dX7_list_0 : decode cX7_list 0 = .ok (.aload_n 0, 1) := by decide +kernel
theorem dX7_list_1 : decode cX7_list 1 = .ok (.invokevirtual 163, 3) := by decide +kernel
theorem dX7_list_4 : decode cX7_list 4 = .ok (.bipush (-9), 2) := by decide +kernel
theorem dX7_list_6 : decode cX7_list 6 = .ok (.if_icmp .eq 6, 3) := by decide +kernel
theorem dX7_list_9 : decode cX7_list 9 = .ok (.bipush (-3), 2) := by decide +kernel
theorem dX7_list_11 : decode cX7_list 11 = .ok (.ireturn, 1) := by decide +kernel
theorem dX7_list_12 : decode cX7_list 12 = .ok (.aload_n 0, 1) := by decide +kernel
theorem dX7_list_13 : decode cX7_list 13 = .ok (.aload_n 0, 1) := by decide +kernel
theorem dX7_list_14 : decode cX7_list 14 = .ok (.getfield 120, 3) := by decide +kernel
theorem dX7_list_17 : decode cX7_list 17 = .ok (.putfield 109, 3) := by decide +kernel
theorem dX7_list_20 : decode cX7_list 20 = .ok (.aload_n 0, 1) := by decide +kernel
theorem dX7_list_21 : decode cX7_list 21 = .ok (.aload_n 0, 1) := by decide +kernel
theorem dX7_list_22 : decode cX7_list 22 = .ok (.getfield 123, 3) := by decide +kernel
theorem dX7_list_25 : decode cX7_list 25 = .ok (.putfield 112, 3) := by decide +kernel
theorem dX7_list_28 : decode cX7_list 28 = .ok (.aload_n 0, 1) := by decide +kernel
theorem dX7_list_29 : decode cX7_list 29 = .ok (.aload_n 0, 1) := by decide +kernel
theorem dX7_list_30 : decode cX7_list 30 = .ok (.getfield 126, 3) := by decide +kernel
theorem dX7_list_33 : decode cX7_list 33 = .ok (.putfield 101, 3) := by decide +kernel
theorem dX7_list_36 : decode cX7_list 36 = .ok (.iconst 0, 1) := by decide +kernel
theorem dX7_list_37 : decode cX7_list 37 = .ok (.istore_n 1, 1) := by decide +kernel
theorem dX7_list_38 : decode cX7_list 38 = .ok (.iload_n 1, 1) := by decide +kernel
theorem dX7_list_39 : decode cX7_list 39 = .ok (.aload_n 0, 1) := by decide +kernel
theorem dX7_list_40 : decode cX7_list 40 = .ok (.getfield 109, 3) := by decide +kernel
theorem dX7_list_43 : decode cX7_list 43 = .ok (.if_icmp .ge 21, 3) := by decide +kernel
theorem dX7_list_46 : decode cX7_list 46 = .ok (.aload_n 0, 1) := by decide +kernel
theorem dX7_list_47 : decode cX7_list 47 = .ok (.getfield 29, 3) := by decide +kernel
theorem dX7_list_50 : decode cX7_list 50 = .ok (.iload_n 1, 1) := by decide +kernel
theorem dX7_list_51 : decode cX7_list 51 = .ok (.aload_n 0, 1) := by decide +kernel
theorem dX7_list_52 : decode cX7_list 52 = .ok (.getfield 35, 3) := by decide +kernel
theorem dX7_list_55 : decode cX7_list 55 = .ok (.iload_n 1, 1) := by decide +kernel
theorem dX7_list_56 : decode cX7_list 56 = .ok (.iaload, 1) := by decide +kernel
theorem dX7_list_57 : decode cX7_list 57 = .ok (.iastore, 1) := by decide +kernel
theorem dX7_list_58 : decode cX7_list 58 = .ok (.iinc 1 1, 3) := by decide +kernel
theorem dX7_list_61 : decode cX7_list 61 = .ok (.goto (-23), 3) := by decide +kernel
theorem dX7_list_64 : decode cX7_list 64 = .ok (.iconst 0, 1) := by decide +kernel
theorem dX7_list_65 : decode cX7_list 65 = .ok (.istore_n 1, 1) := by decide +kernel
theorem dX7_list_66 : decode cX7_list 66 = .ok (.iload_n 1, 1) := by decide +kernel
theorem dX7_list_67 : decode cX7_list 67 = .ok (.aload_n 0, 1) := by decide +kernel
theorem dX7_list_68 : decode cX7_list 68 = .ok (.getfield 112, 3) := by decide +kernel
theorem dX7_list_71 : decode cX7_list 71 = .ok (.if_icmp .ge 21, 3) := by decide +kernel
theorem dX7_list_74 : decode cX7_list 74 = .ok (.aload_n 0, 1) := by decide +kernel
theorem dX7_list_75 : decode cX7_list 75 = .ok (.getfield 32, 3) := by decide +kernel
theorem dX7_list_78 : decode cX7_list 78 = .ok (.iload_n 1, 1) := by decide +kernel
theorem dX7_list_79 : decode cX7_list 79 = .ok (.aload_n 0, 1) := by decide +kernel
theorem dX7_list_80 : decode cX7_list 80 = .ok (.getfield 38, 3) := by decide +kernel
theorem dX7_list_83 : decode cX7_list 83 = .ok (.iload_n 1, 1) := by decide +kernel
theorem dX7_list_84 : decode cX7_list 84 = .ok (.iaload, 1) := by decide +kernel
theorem dX7_list_85 : decode cX7_list 85 = .ok (.iastore, 1) := by decide +kernel
theorem dX7_list_86 : decode cX7_list 86 = .ok (.iinc 1 1, 3) := by decide +kernel
theorem dX7_list_89 : decode cX7_list 89 = .ok (.goto (-23), 3) := by decide +kernel
theorem dX7_list_92 : decode cX7_list 92 = .ok (.iconst 0, 1) := by decide +kernel
theorem dX7_list_93 : decode cX7_list 93 = .ok (.istore_n 1, 1) := by decide +kernel
theorem dX7_list_94 : decode cX7_list 94 = .ok (.iload_n 1, 1) := by decide +kernel
theorem dX7_list_95 : decode cX7_list 95 = .ok (.aload_n 0, 1) := by decide +kernel
theorem dX7_list_96 : decode cX7_list 96 = .ok (.getfield 101, 3) := by decide +kernel
theorem dX7_list_99 : decode cX7_list 99 = .ok (.if_icmp .ge 16, 3) := by decide +kernel
theorem dX7_list_102 : decode cX7_list 102 = .ok (.aload_n 0, 1) := by decide +kernel
theorem dX7_list_103 : decode cX7_list 103 = .ok (.getfield 13, 3) := by decide +kernel
theorem dX7_list_106 : decode cX7_list 106 = .ok (.iload_n 1, 1) := by decide +kernel
theorem dX7_list_107 : decode cX7_list 107 = .ok (.iload_n 1, 1) := by decide +kernel
theorem dX7_list_108 : decode cX7_list 108 = .ok (.iastore, 1) := by decide +kernel
theorem dX7_list_109 : decode cX7_list 109 = .ok (.iinc 1 1, 3) := by decide +kernel
theorem dX7_list_112 : decode cX7_list 112 = .ok (.goto (-18), 3) := by decide +kernel
theorem dX7_list_115 : decode cX7_list 115 = .ok (.iconst 0, 1) := by decide +kernel
theorem dX7_list_116 : decode cX7_list 116 = .ok (.istore_n 1, 1) := by decide +kernel
theorem dX7_list_117 : decode cX7_list 117 = .ok (.iload_n 1, 1) := by decide +kernel
theorem dX7_list_118 : decode cX7_list 118 = .ok (.iconst 4, 1) := by decide +kernel
theorem dX7_list_119 : decode cX7_list 119 = .ok (.aload_n 0, 1) := by decide +kernel
theorem dX7_list_120 : decode cX7_list 120 = .ok (.getfield 101, 3) := by decide +kernel
theorem dX7_list_123 : decode cX7_list 123 = .ok (.imul, 1) := by decide +kernel
theorem dX7_list_124 : decode cX7_list 124 = .ok (.if_icmp .ge 23, 3) := by decide +kernel
theorem dX7_list_127 : decode cX7_list 127 = .ok (.aload_n 0, 1) := by decide +kernel
theorem dX7_list_128 : decode cX7_list 128 = .ok (.getfield 13, 3) := by decide +kernel
theorem dX7_list_131 : decode cX7_list 131 = .ok (.iconst 4, 1) := by decide +kernel
theorem dX7_list_132 : decode cX7_list 132 = .ok (.iload_n 1, 1) := by decide +kernel
theorem dX7_list_133 : decode cX7_list 133 = .ok (.iadd, 1) := by decide +kernel
theorem dX7_list_134 : decode cX7_list 134 = .ok (.aload_n 0, 1) := by decide +kernel
theorem dX7_list_135 : decode cX7_list 135 = .ok (.getfield 41, 3) := by decide +kernel
theorem dX7_list_138 : decode cX7_list 138 = .ok (.iload_n 1, 1) := by decide +kernel
theorem dX7_list_139 : decode cX7_list 139 = .ok (.iaload, 1) := by decide +kernel
theorem dX7_list_140 : decode cX7_list 140 = .ok (.iastore, 1) := by decide +kernel
theorem dX7_list_141 : decode cX7_list 141 = .ok (.iinc 1 1, 3) := by decide +kernel
theorem dX7_list_144 : decode cX7_list 144 = .ok (.goto (-27), 3) := by decide +kernel
theorem dX7_list_147 : decode cX7_list 147 = .ok (.aload_n 0, 1) := by decide +kernel
theorem dX7_list_148 : decode cX7_list 148 = .ok (.invokevirtual 62, 3) := by decide +kernel
theorem dX7_list_151 : decode cX7_list 151 = .ok (.aload_n 0, 1) := by decide +kernel
theorem dX7_list_152 : decode cX7_list 152 = .ok (.iconst 0, 1) := by decide +kernel
theorem dX7_list_153 : decode cX7_list 153 = .ok (.putfield 167, 3) := by decide +kernel
theorem dX7_list_156 : decode cX7_list 156 = .ok (.aload_n 0, 1) := by decide +kernel
theorem dX7_list_157 : decode cX7_list 157 = .ok (.getfield 25, 3) := by decide +kernel
theorem dX7_list_160 : decode cX7_list 160 = .ok (.iconst 0, 1) := by decide +kernel
theorem dX7_list_161 : decode cX7_list 161 = .ok (.iconst 0, 1) := by decide +kernel
theorem dX7_list_162 : decode cX7_list 162 = .ok (.bastore, 1) := by decide +kernel
theorem dX7_list_163 : decode cX7_list 163 = .ok (.aload_n 0, 1) := by decide +kernel
theorem dX7_list_164 : decode cX7_list 164 = .ok (.getfield 25, 3) := by decide +kernel
theorem dX7_list_167 : decode cX7_list 167 = .ok (.iconst 1, 1) := by decide +kernel
theorem dX7_list_168 : decode cX7_list 168 = .ok (.iconst 0, 1) := by decide +kernel
theorem dX7_list_169 : decode cX7_list 169 = .ok (.bastore, 1) := by decide +kernel
theorem dX7_list_170 : decode cX7_list 170 = .ok (.aload_n 0, 1) := by decide +kernel
theorem dX7_list_171 : decode cX7_list 171 = .ok (.getfield 137, 3) := by decide +kernel
theorem dX7_list_174 : decode cX7_list 174 = .ok (.ireturn, 1) := by decide +kernel
theorem dX7_unlike_0 : decode cX7_unlike 0 = .ok (.iconst 0, 1) := by decide +kernel
theorem dX7_unlike_1 : decode cX7_unlike 1 = .ok (.istore_n 3, 1) := by decide +kernel
theorem dX7_unlike_2 : decode cX7_unlike 2 = .ok (.iconst 0, 1) := by decide +kernel
theorem dX7_unlike_3 : decode cX7_unlike 3 = .ok (.istore 4, 2) := by decide +kernel
theorem dX7_unlike_5 : decode cX7_unlike 5 = .ok (.iload 4, 2) := by decide +kernel
theorem dX7_unlike_7 : decode cX7_unlike 7 = .ok (.aload_n 0, 1) := by decide +kernel
theorem dX7_unlike_8 : decode cX7_unlike 8 = .ok (.getfield 109, 3) := by decide +kernel
theorem dX7_unlike_11 : decode cX7_unlike 11 = .ok (.aload_n 0, 1) := by decide +kernel
theorem dX7_unlike_12 : decode cX7_unlike 12 = .ok (.getfield 112, 3) := by decide +kernel
theorem dX7_unlike_15 : decode cX7_unlike 15 = .ok (.imul, 1) := by decide +kernel
theorem dX7_unlike_16 : decode cX7_unlike 16 = .ok (.if_icmp .ge 89, 3) := by decide +kernel
theorem dX7_unlike_19 : decode cX7_unlike 19 = .ok (.aload_n 0, 1) := by decide +kernel
theorem dX7_unlike_20 : decode cX7_unlike 20 = .ok (.aload_n 1, 1) := by decide +kernel
theorem dX7_unlike_21 : decode cX7_unlike 21 = .ok (.iload 4, 2) := by decide +kernel
theorem dX7_unlike_23 : decode cX7_unlike 23 = .ok (.aload_n 0, 1) := by decide +kernel
theorem dX7_unlike_24 : decode cX7_unlike 24 = .ok (.getfield 112, 3) := by decide +kernel
theorem dX7_unlike_27 : decode cX7_unlike 27 = .ok (.idiv, 1) := by decide +kernel
theorem dX7_unlike_28 : decode cX7_unlike 28 = .ok (.iload 4, 2) := by decide +kernel
theorem dX7_unlike_30 : decode cX7_unlike 30 = .ok (.aload_n 0, 1) := by decide +kernel
theorem dX7_unlike_31 : decode cX7_unlike 31 = .ok (.getfield 112, 3) := by decide +kernel
theorem dX7_unlike_34 : decode cX7_unlike 34 = .ok (.irem, 1) := by decide +kernel
theorem dX7_unlike_35 : decode cX7_unlike 35 = .ok (.iload_n 2, 1) := by decide +kernel
theorem dX7_unlike_36 : decode cX7_unlike 36 = .ok (.invokevirtual 170, 3) := by decide +kernel
theorem dX7_unlike_39 : decode cX7_unlike 39 = .ok (.istore 5, 2) := by decide +kernel
theorem dX7_unlike_41 : decode cX7_unlike 41 = .ok (.iconst 0, 1) := by decide +kernel
theorem dX7_unlike_42 : decode cX7_unlike 42 = .ok (.istore 6, 2) := by decide +kernel
theorem dX7_unlike_44 : decode cX7_unlike 44 = .ok (.iconst 0, 1) := by decide +kernel
theorem dX7_unlike_45 : decode cX7_unlike 45 = .ok (.istore 7, 2) := by decide +kernel
theorem dX7_unlike_47 : decode cX7_unlike 47 = .ok (.iload 7, 2) := by decide +kernel
theorem dX7_unlike_49 : decode cX7_unlike 49 = .ok (.iload_n 3, 1) := by decide +kernel
theorem dX7_unlike_50 : decode cX7_unlike 50 = .ok (.if_icmp .ge 33, 3) := by decide +kernel
theorem dX7_unlike_53 : decode cX7_unlike 53 = .ok (.iload 6, 2) := by decide +kernel
theorem dX7_unlike_55 : decode cX7_unlike 55 = .ok (.ifCond .ne 15, 3) := by decide +kernel
theorem dX7_unlike_58 : decode cX7_unlike 58 = .ok (.aload_n 0, 1) := by decide +kernel
theorem dX7_unlike_59 : decode cX7_unlike 59 = .ok (.getfield 56, 3) := by decide +kernel
theorem dX7_unlike_62 : decode cX7_unlike 62 = .ok (.iload 7, 2) := by decide +kernel
theorem dX7_unlike_64 : decode cX7_unlike 64 = .ok (.iaload, 1) := by decide +kernel
theorem dX7_unlike_65 : decode cX7_unlike 65 = .ok (.iload 5, 2) := by decide +kernel
theorem dX7_unlike_67 : decode cX7_unlike 67 = .ok (.if_icmp .ne 7, 3) := by decide +kernel
theorem dX7_unlike_70 : decode cX7_unlike 70 = .ok (.iconst 1, 1) := by decide +kernel
theorem dX7_unlike_71 : decode cX7_unlike 71 = .ok (.goto 4, 3) := by decide +kernel
theorem dX7_unlike_74 : decode cX7_unlike 74 = .ok (.iconst 0, 1) := by decide +kernel
theorem dX7_unlike_75 : decode cX7_unlike 75 = .ok (.istore 6, 2) := by decide +kernel
theorem dX7_unlike_77 : decode cX7_unlike 77 = .ok (.iinc 7 1, 3) := by decide +kernel
theorem dX7_unlike_80 : decode cX7_unlike 80 = .ok (.goto (-33), 3) := by decide +kernel
theorem dX7_unlike_83 : decode cX7_unlike 83 = .ok (.iload 6, 2) := by decide +kernel
theorem dX7_unlike_85 : decode cX7_unlike 85 = .ok (.ifCond .ne 14, 3) := by decide +kernel
theorem dX7_unlike_88 : decode cX7_unlike 88 = .ok (.aload_n 0, 1) := by decide +kernel
theorem dX7_unlike_89 : decode cX7_unlike 89 = .ok (.getfield 56, 3) := by decide +kernel
theorem dX7_unlike_92 : decode cX7_unlike 92 = .ok (.iload_n 3, 1) := by decide +kernel
theorem dX7_unlike_93 : decode cX7_unlike 93 = .ok (.iload 5, 2) := by decide +kernel
theorem dX7_unlike_95 : decode cX7_unlike 95 = .ok (.iastore, 1) := by decide +kernel
theorem dX7_unlike_96 : decode cX7_unlike 96 = .ok (.iinc 3 1, 3) := by decide +kernel
theorem dX7_unlike_99 : decode cX7_unlike 99 = .ok (.iinc 4 1, 3) := by decide +kernel
theorem dX7_unlike_102 : decode cX7_unlike 102 = .ok (.goto (-97), 3) := by decide +kernel
theorem dX7_unlike_105 : decode cX7_unlike 105 = .ok (.iload_n 3, 1) := by decide +kernel
theorem dX7_unlike_106 : decode cX7_unlike 106 = .ok (.ireturn, 1) := by decide +kernel
theorem dX7_active_0 : decode cX7_active 0 = .ok (.iconst 0, 1) := by decide +kernel
theorem dX7_active_1 : decode cX7_active 1 = .ok (.istore_n 2, 1) := by decide +kernel
theorem dX7_active_2 : decode cX7_active 2 = .ok (.iconst 0, 1) := by decide +kernel
theorem dX7_active_3 : decode cX7_active 3 = .ok (.istore_n 3, 1) := by decide +kernel
theorem dX7_active_4 : decode cX7_active 4 = .ok (.iload_n 3, 1) := by decide +kernel
theorem dX7_active_5 : decode cX7_active 5 = .ok (.aload_n 0, 1) := by decide +kernel
theorem dX7_active_6 : decode cX7_active 6 = .ok (.getfield 109, 3) := by decide +kernel
theorem dX7_active_9 : decode cX7_active 9 = .ok (.aload_n 0, 1) := by decide +kernel
theorem dX7_active_10 : decode cX7_active 10 = .ok (.getfield 112, 3) := by decide +kernel
theorem dX7_active_13 : decode cX7_active 13 = .ok (.imul, 1) := by decide +kernel
theorem dX7_active_14 : decode cX7_active 14 = .ok (.if_icmp .ge 81, 3) := by decide +kernel
theorem dX7_active_17 : decode cX7_active 17 = .ok (.aload_n 0, 1) := by decide +kernel
theorem dX7_active_18 : decode cX7_active 18 = .ok (.iload_n 3, 1) := by decide +kernel
theorem dX7_active_19 : decode cX7_active 19 = .ok (.aload_n 0, 1) := by decide +kernel
theorem dX7_active_20 : decode cX7_active 20 = .ok (.getfield 112, 3) := by decide +kernel
theorem dX7_active_23 : decode cX7_active 23 = .ok (.idiv, 1) := by decide +kernel
theorem dX7_active_24 : decode cX7_active 24 = .ok (.iload_n 3, 1) := by decide +kernel
theorem dX7_active_25 : decode cX7_active 25 = .ok (.aload_n 0, 1) := by decide +kernel
theorem dX7_active_26 : decode cX7_active 26 = .ok (.getfield 112, 3) := by decide +kernel
theorem dX7_active_29 : decode cX7_active 29 = .ok (.irem, 1) := by decide +kernel
theorem dX7_active_30 : decode cX7_active 30 = .ok (.invokevirtual 98, 3) := by decide +kernel
theorem dX7_active_33 : decode cX7_active 33 = .ok (.istore 4, 2) := by decide +kernel
theorem dX7_active_35 : decode cX7_active 35 = .ok (.iconst 0, 1) := by decide +kernel
theorem dX7_active_36 : decode cX7_active 36 = .ok (.istore 5, 2) := by decide +kernel
theorem dX7_active_38 : decode cX7_active 38 = .ok (.iload 5, 2) := by decide +kernel
theorem dX7_active_40 : decode cX7_active 40 = .ok (.aload_n 0, 1) := by decide +kernel
theorem dX7_active_41 : decode cX7_active 41 = .ok (.getfield 101, 3) := by decide +kernel
theorem dX7_active_44 : decode cX7_active 44 = .ok (.if_icmp .ge 45, 3) := by decide +kernel
theorem dX7_active_47 : decode cX7_active 47 = .ok (.aload_n 1, 1) := by decide +kernel
theorem dX7_active_48 : decode cX7_active 48 = .ok (.aload_n 1, 1) := by decide +kernel
theorem dX7_active_49 : decode cX7_active 49 = .ok (.iload 5, 2) := by decide +kernel
theorem dX7_active_51 : decode cX7_active 51 = .ok (.iaload, 1) := by decide +kernel
theorem dX7_active_52 : decode cX7_active 52 = .ok (.iload 4, 2) := by decide +kernel
theorem dX7_active_54 : decode cX7_active 54 = .ok (.invokestatic 91, 3) := by decide +kernel
theorem dX7_active_57 : decode cX7_active 57 = .ok (.istore 6, 2) := by decide +kernel
theorem dX7_active_59 : decode cX7_active 59 = .ok (.iload_n 2, 1) := by decide +kernel
theorem dX7_active_60 : decode cX7_active 60 = .ok (.iload 6, 2) := by decide +kernel
theorem dX7_active_62 : decode cX7_active 62 = .ok (.iload 4, 2) := by decide +kernel
theorem dX7_active_64 : decode cX7_active 64 = .ok (.if_icmp .ne 7, 3) := by decide +kernel
theorem dX7_active_67 : decode cX7_active 67 = .ok (.iconst 0, 1) := by decide +kernel
theorem dX7_active_68 : decode cX7_active 68 = .ok (.goto 9, 3) := by decide +kernel
theorem dX7_active_71 : decode cX7_active 71 = .ok (.iconst 1, 1) := by decide +kernel
theorem dX7_active_72 : decode cX7_active 72 = .ok (.aload_n 1, 1) := by decide +kernel
theorem dX7_active_73 : decode cX7_active 73 = .ok (.iload 5, 2) := by decide +kernel
theorem dX7_active_75 : decode cX7_active 75 = .ok (.iaload, 1) := by decide +kernel
theorem dX7_active_76 : decode cX7_active 76 = .ok (.ishl, 1) := by decide +kernel
theorem dX7_active_77 : decode cX7_active 77 = .ok (.ior, 1) := by decide +kernel
theorem dX7_active_78 : decode cX7_active 78 = .ok (.istore_n 2, 1) := by decide +kernel
theorem dX7_active_79 : decode cX7_active 79 = .ok (.iload 6, 2) := by decide +kernel
theorem dX7_active_81 : decode cX7_active 81 = .ok (.istore 4, 2) := by decide +kernel
theorem dX7_active_83 : decode cX7_active 83 = .ok (.iinc 5 1, 3) := by decide +kernel
theorem dX7_active_86 : decode cX7_active 86 = .ok (.goto (-48), 3) := by decide +kernel
theorem dX7_active_89 : decode cX7_active 89 = .ok (.iinc 3 1, 3) := by decide +kernel
theorem dX7_active_92 : decode cX7_active 92 = .ok (.goto (-88), 3) := by decide +kernel
theorem dX7_active_95 : decode cX7_active 95 = .ok (.iload_n 2, 1) := by decide +kernel
theorem dX7_active_96 : decode cX7_active 96 = .ok (.ireturn, 1) := by decide +kernel
theorem dX7_exceptions_0 : decode cX7_exceptions 0 = .ok (.iconst 0, 1) := by decide +kernel
theorem dX7_exceptions_1 : decode cX7_exceptions 1 = .ok (.istore_n 2, 1) := by decide +kernel
theorem dX7_exceptions_2 : decode cX7_exceptions 2 = .ok (.iconst 0, 1) := by decide +kernel
theorem dX7_exceptions_3 : decode cX7_exceptions 3 = .ok (.istore_n 3, 1) := by decide +kernel
theorem dX7_exceptions_4 : decode cX7_exceptions 4 = .ok (.iload_n 3, 1) := by decide +kernel
theorem dX7_exceptions_5 : decode cX7_exceptions 5 = .ok (.aload_n 0, 1) := by decide +kernel
theorem dX7_exceptions_6 : decode cX7_exceptions 6 = .ok (.getfield 109, 3) := by decide +kernel
theorem dX7_exceptions_9 : decode cX7_exceptions 9 = .ok (.if_icmp .ge 70, 3) := by decide +kernel
theorem dX7_exceptions_12 : decode cX7_exceptions 12 = .ok (.iconst 0, 1) := by decide +kernel
theorem dX7_exceptions_13 : decode cX7_exceptions 13 = .ok (.istore 4, 2) := by decide +kernel
theorem dX7_exceptions_15 : decode cX7_exceptions 15 = .ok (.iload 4, 2) := by decide +kernel
theorem dX7_exceptions_17 : decode cX7_exceptions 17 = .ok (.aload_n 0, 1) := by decide +kernel
theorem dX7_exceptions_18 : decode cX7_exceptions 18 = .ok (.getfield 112, 3) := by decide +kernel
theorem dX7_exceptions_21 : decode cX7_exceptions 21 = .ok (.if_icmp .ge 52, 3) := by decide +kernel
theorem dX7_exceptions_24 : decode cX7_exceptions 24 = .ok (.aload_n 1, 1) := by decide +kernel
theorem dX7_exceptions_25 : decode cX7_exceptions 25 = .ok (.bipush 20, 2) := by decide +kernel
theorem dX7_exceptions_27 : decode cX7_exceptions 27 = .ok (.iconst 3, 1) := by decide +kernel
theorem dX7_exceptions_28 : decode cX7_exceptions 28 = .ok (.iload_n 3, 1) := by decide +kernel
theorem dX7_exceptions_29 : decode cX7_exceptions 29 = .ok (.imul, 1) := by decide +kernel
theorem dX7_exceptions_30 : decode cX7_exceptions 30 = .ok (.iadd, 1) := by decide +kernel
theorem dX7_exceptions_31 : decode cX7_exceptions 31 = .ok (.iload 4, 2) := by decide +kernel
theorem dX7_exceptions_33 : decode cX7_exceptions 33 = .ok (.iadd, 1) := by decide +kernel
theorem dX7_exceptions_34 : decode cX7_exceptions 34 = .ok (.iaload, 1) := by decide +kernel
theorem dX7_exceptions_35 : decode cX7_exceptions 35 = .ok (.istore 5, 2) := by decide +kernel
theorem dX7_exceptions_37 : decode cX7_exceptions 37 = .ok (.iload_n 2, 1) := by decide +kernel
theorem dX7_exceptions_38 : decode cX7_exceptions 38 = .ok (.iload 5, 2) := by decide +kernel
theorem dX7_exceptions_40 : decode cX7_exceptions 40 = .ok (.bipush (-9), 2) := by decide +kernel
theorem dX7_exceptions_42 : decode cX7_exceptions 42 = .ok (.if_icmp .eq 22, 3) := by decide +kernel
theorem dX7_exceptions_45 : decode cX7_exceptions 45 = .ok (.iload 5, 2) := by decide +kernel
theorem dX7_exceptions_47 : decode cX7_exceptions 47 = .ok (.aload_n 0, 1) := by decide +kernel
theorem dX7_exceptions_48 : decode cX7_exceptions 48 = .ok (.aload_n 1, 1) := by decide +kernel
theorem dX7_exceptions_49 : decode cX7_exceptions 49 = .ok (.iload_n 3, 1) := by decide +kernel
theorem dX7_exceptions_50 : decode cX7_exceptions 50 = .ok (.iload 4, 2) := by decide +kernel
theorem dX7_exceptions_52 : decode cX7_exceptions 52 = .ok (.bipush 15, 2) := by decide +kernel
theorem dX7_exceptions_54 : decode cX7_exceptions 54 = .ok (.invokevirtual 170, 3) := by decide +kernel
theorem dX7_exceptions_57 : decode cX7_exceptions 57 = .ok (.if_icmp .eq 7, 3) := by decide +kernel
theorem dX7_exceptions_60 : decode cX7_exceptions 60 = .ok (.iconst 1, 1) := by decide +kernel
theorem dX7_exceptions_61 : decode cX7_exceptions 61 = .ok (.goto 4, 3) := by decide +kernel
theorem dX7_exceptions_64 : decode cX7_exceptions 64 = .ok (.iconst 0, 1) := by decide +kernel
theorem dX7_exceptions_65 : decode cX7_exceptions 65 = .ok (.iadd, 1) := by decide +kernel
theorem dX7_exceptions_66 : decode cX7_exceptions 66 = .ok (.istore_n 2, 1) := by decide +kernel
theorem dX7_exceptions_67 : decode cX7_exceptions 67 = .ok (.iinc 4 1, 3) := by decide +kernel
theorem dX7_exceptions_70 : decode cX7_exceptions 70 = .ok (.goto (-55), 3) := by decide +kernel
theorem dX7_exceptions_73 : decode cX7_exceptions 73 = .ok (.iinc 3 1, 3) := by decide +kernel
theorem dX7_exceptions_76 : decode cX7_exceptions 76 = .ok (.goto (-72), 3) := by decide +kernel
theorem dX7_exceptions_79 : decode cX7_exceptions 79 = .ok (.iload_n 2, 1) := by decide +kernel
theorem dX7_exceptions_80 : decode cX7_exceptions 80 = .ok (.ireturn, 1) := by decide +kernel
theorem dX7_manyForms_0 : decode cX7_manyForms 0 = .ok (.iconst 0, 1) := by decide +kernel
theorem dX7_manyForms_1 : decode cX7_manyForms 1 = .ok (.istore_n 1, 1) := by decide +kernel
theorem dX7_manyForms_2 : decode cX7_manyForms 2 = .ok (.bipush 20, 2) := by decide +kernel
theorem dX7_manyForms_4 : decode cX7_manyForms 4 = .ok (.istore_n 2, 1) := by decide +kernel
theorem dX7_manyForms_5 : decode cX7_manyForms 5 = .ok (.iload_n 2, 1) := by decide +kernel
theorem dX7_manyForms_6 : decode cX7_manyForms 6 = .ok (.bipush 32, 2) := by decide +kernel
theorem dX7_manyForms_8 : decode cX7_manyForms 8 = .ok (.if_icmp .ge 28, 3) := by decide +kernel
theorem dX7_manyForms_11 : decode cX7_manyForms 11 = .ok (.iload_n 1, 1) := by decide +kernel
theorem dX7_manyForms_12 : decode cX7_manyForms 12 = .ok (.aload_n 0, 1) := by decide +kernel
theorem dX7_manyForms_13 : decode cX7_manyForms 13 = .ok (.getfield 13, 3) := by decide +kernel
theorem dX7_manyForms_16 : decode cX7_manyForms 16 = .ok (.iload_n 2, 1) := by decide +kernel
theorem dX7_manyForms_17 : decode cX7_manyForms 17 = .ok (.iaload, 1) := by decide +kernel
theorem dX7_manyForms_18 : decode cX7_manyForms 18 = .ok (.bipush (-9), 2) := by decide +kernel
theorem dX7_manyForms_20 : decode cX7_manyForms 20 = .ok (.if_icmp .ne 7, 3) := by decide +kernel
theorem dX7_manyForms_23 : decode cX7_manyForms 23 = .ok (.iconst 0, 1) := by decide +kernel
theorem dX7_manyForms_24 : decode cX7_manyForms 24 = .ok (.goto 4, 3) := by decide +kernel
theorem dX7_manyForms_27 : decode cX7_manyForms 27 = .ok (.iconst 1, 1) := by decide +kernel
theorem dX7_manyForms_28 : decode cX7_manyForms 28 = .ok (.iadd, 1) := by decide +kernel
theorem dX7_manyForms_29 : decode cX7_manyForms 29 = .ok (.istore_n 1, 1) := by decide +kernel
theorem dX7_manyForms_30 : decode cX7_manyForms 30 = .ok (.iinc 2 1, 3) := by decide +kernel
theorem dX7_manyForms_33 : decode cX7_manyForms 33 = .ok (.goto (-28), 3) := by decide +kernel
theorem dX7_manyForms_36 : decode cX7_manyForms 36 = .ok (.iload_n 1, 1) := by decide +kernel
theorem dX7_manyForms_37 : decode cX7_manyForms 37 = .ok (.ireturn, 1) := by decide +kernel
theorem dX7_about_0 : decode cX7_about 0 = .ok (.iload_n 1, 1) := by decide +kernel
theorem dX7_about_1 : decode cX7_about 1 = .ok (.tableswitch 119 0 9 #[55, 60, 65, 70, 81, 90, 99, 104, 109, 114], 55) := by decide +kernel
theorem dX7_about_56 : decode cX7_about 56 = .ok (.aload_n 0, 1) := by decide +kernel
theorem dX7_about_57 : decode cX7_about 57 = .ok (.getfield 109, 3) := by decide +kernel
theorem dX7_about_60 : decode cX7_about 60 = .ok (.ireturn, 1) := by decide +kernel
theorem dX7_about_61 : decode cX7_about 61 = .ok (.aload_n 0, 1) := by decide +kernel
theorem dX7_about_62 : decode cX7_about 62 = .ok (.getfield 112, 3) := by decide +kernel
theorem dX7_about_65 : decode cX7_about 65 = .ok (.ireturn, 1) := by decide +kernel
theorem dX7_about_66 : decode cX7_about 66 = .ok (.aload_n 0, 1) := by decide +kernel
theorem dX7_about_67 : decode cX7_about 67 = .ok (.getfield 101, 3) := by decide +kernel
theorem dX7_about_70 : decode cX7_about 70 = .ok (.ireturn, 1) := by decide +kernel
theorem dX7_about_71 : decode cX7_about 71 = .ok (.aload_n 0, 1) := by decide +kernel
theorem dX7_about_72 : decode cX7_about 72 = .ok (.aload_n 0, 1) := by decide +kernel
theorem dX7_about_73 : decode cX7_about 73 = .ok (.getfield 13, 3) := by decide +kernel
theorem dX7_about_76 : decode cX7_about 76 = .ok (.bipush 15, 2) := by decide +kernel
theorem dX7_about_78 : decode cX7_about 78 = .ok (.invokevirtual 173, 3) := by decide +kernel
theorem dX7_about_81 : decode cX7_about 81 = .ok (.ireturn, 1) := by decide +kernel
theorem dX7_about_82 : decode cX7_about 82 = .ok (.aload_n 0, 1) := by decide +kernel
theorem dX7_about_83 : decode cX7_about 83 = .ok (.aload_n 0, 1) := by decide +kernel
theorem dX7_about_84 : decode cX7_about 84 = .ok (.getfield 13, 3) := by decide +kernel
theorem dX7_about_87 : decode cX7_about 87 = .ok (.invokevirtual 177, 3) := by decide +kernel
theorem dX7_about_90 : decode cX7_about 90 = .ok (.ireturn, 1) := by decide +kernel
theorem dX7_about_91 : decode cX7_about 91 = .ok (.aload_n 0, 1) := by decide +kernel
theorem dX7_about_92 : decode cX7_about 92 = .ok (.aload_n 0, 1) := by decide +kernel
theorem dX7_about_93 : decode cX7_about 93 = .ok (.getfield 13, 3) := by decide +kernel
theorem dX7_about_96 : decode cX7_about 96 = .ok (.invokevirtual 181, 3) := by decide +kernel
theorem dX7_about_99 : decode cX7_about 99 = .ok (.ireturn, 1) := by decide +kernel
theorem dX7_about_100 : decode cX7_about 100 = .ok (.aload_n 0, 1) := by decide +kernel
theorem dX7_about_101 : decode cX7_about 101 = .ok (.invokevirtual 184, 3) := by decide +kernel
theorem dX7_about_104 : decode cX7_about 104 = .ok (.ireturn, 1) := by decide +kernel
theorem dX7_about_105 : decode cX7_about 105 = .ok (.aload_n 0, 1) := by decide +kernel
theorem dX7_about_106 : decode cX7_about 106 = .ok (.getfield 167, 3) := by decide +kernel
theorem dX7_about_109 : decode cX7_about 109 = .ok (.ireturn, 1) := by decide +kernel
theorem dX7_about_110 : decode cX7_about 110 = .ok (.aload_n 0, 1) := by decide +kernel
theorem dX7_about_111 : decode cX7_about 111 = .ok (.getfield 187, 3) := by decide +kernel
theorem dX7_about_114 : decode cX7_about 114 = .ok (.ireturn, 1) := by decide +kernel
theorem dX7_about_115 : decode cX7_about 115 = .ok (.aload_n 0, 1) := by decide +kernel
theorem dX7_about_116 : decode cX7_about 116 = .ok (.getfield 117, 3) := by decide +kernel
theorem dX7_about_119 : decode cX7_about 119 = .ok (.ireturn, 1) := by decide +kernel
theorem dX7_about_120 : decode cX7_about 120 = .ok (.bipush (-2), 2) := by decide +kernel
theorem dX7_about_122 : decode cX7_about 122 = .ok (.ireturn, 1) := by decide +kernel
theorem dX7_part_0 : decode cX7_part 0 = .ok (.iload_n 1, 1) := by decide +kernel
theorem dX7_part_1 : decode cX7_part 1 = .ok (.ifCond .ne 22, 3) := by decide +kernel
theorem dX7_part_4 : decode cX7_part 4 = .ok (.aload_n 0, 1) := by decide +kernel
theorem dX7_part_5 : decode cX7_part 5 = .ok (.iload_n 2, 1) := by decide +kernel
theorem dX7_part_6 : decode cX7_part 6 = .ok (.invokevirtual 190, 3) := by decide +kernel
theorem dX7_part_9 : decode cX7_part 9 = .ok (.ifCond .eq 12, 3) := by decide +kernel
theorem dX7_part_12 : decode cX7_part 12 = .ok (.aload_n 0, 1) := by decide +kernel
theorem dX7_part_13 : decode cX7_part 13 = .ok (.getfield 29, 3) := by decide +kernel
theorem dX7_part_16 : decode cX7_part 16 = .ok (.iload_n 2, 1) := by decide +kernel
theorem dX7_part_17 : decode cX7_part 17 = .ok (.iaload, 1) := by decide +kernel
theorem dX7_part_18 : decode cX7_part 18 = .ok (.goto 4, 3) := by decide +kernel
theorem dX7_part_21 : decode cX7_part 21 = .ok (.iconst (-1), 1) := by decide +kernel
theorem dX7_part_22 : decode cX7_part 22 = .ok (.ireturn, 1) := by decide +kernel
theorem dX7_part_23 : decode cX7_part 23 = .ok (.iload_n 1, 1) := by decide +kernel
theorem dX7_part_24 : decode cX7_part 24 = .ok (.iconst 1, 1) := by decide +kernel
theorem dX7_part_25 : decode cX7_part 25 = .ok (.if_icmp .ne 22, 3) := by decide +kernel
theorem dX7_part_28 : decode cX7_part 28 = .ok (.aload_n 0, 1) := by decide +kernel
theorem dX7_part_29 : decode cX7_part 29 = .ok (.iload_n 2, 1) := by decide +kernel
theorem dX7_part_30 : decode cX7_part 30 = .ok (.invokevirtual 193, 3) := by decide +kernel
theorem dX7_part_33 : decode cX7_part 33 = .ok (.ifCond .eq 12, 3) := by decide +kernel
theorem dX7_part_36 : decode cX7_part 36 = .ok (.aload_n 0, 1) := by decide +kernel
theorem dX7_part_37 : decode cX7_part 37 = .ok (.getfield 32, 3) := by decide +kernel
theorem dX7_part_40 : decode cX7_part 40 = .ok (.iload_n 2, 1) := by decide +kernel
theorem dX7_part_41 : decode cX7_part 41 = .ok (.iaload, 1) := by decide +kernel
theorem dX7_part_42 : decode cX7_part 42 = .ok (.goto 4, 3) := by decide +kernel
theorem dX7_part_45 : decode cX7_part 45 = .ok (.iconst (-1), 1) := by decide +kernel
theorem dX7_part_46 : decode cX7_part 46 = .ok (.ireturn, 1) := by decide +kernel
theorem dX7_part_47 : decode cX7_part 47 = .ok (.bipush (-2), 2) := by decide +kernel
theorem dX7_part_49 : decode cX7_part 49 = .ok (.ireturn, 1) := by decide +kernel
theorem dX7_sign_0 : decode cX7_sign 0 = .ok (.aload_n 0, 1) := by decide +kernel
theorem dX7_sign_1 : decode cX7_sign 1 = .ok (.iload_n 1, 1) := by decide +kernel
theorem dX7_sign_2 : decode cX7_sign 2 = .ok (.invokevirtual 196, 3) := by decide +kernel
theorem dX7_sign_5 : decode cX7_sign 5 = .ok (.ifCond .ne 5, 3) := by decide +kernel
theorem dX7_sign_8 : decode cX7_sign 8 = .ok (.iconst (-1), 1) := by decide +kernel
theorem dX7_sign_9 : decode cX7_sign 9 = .ok (.ireturn, 1) := by decide +kernel
theorem dX7_sign_10 : decode cX7_sign 10 = .ok (.iload_n 2, 1) := by decide +kernel
theorem dX7_sign_11 : decode cX7_sign 11 = .ok (.i2l, 1) := by decide +kernel
theorem dX7_sign_12 : decode cX7_sign 12 = .ok (.lconst 0, 1) := by decide +kernel
theorem dX7_sign_13 : decode cX7_sign 13 = .ok (.ldc2_w 199, 3) := by decide +kernel
theorem dX7_sign_16 : decode cX7_sign 16 = .ok (.invokestatic 78, 3) := by decide +kernel
theorem dX7_sign_19 : decode cX7_sign 19 = .ok (.ifCond .eq 18, 3) := by decide +kernel
theorem dX7_sign_22 : decode cX7_sign 22 = .ok (.aload_n 0, 1) := by decide +kernel
theorem dX7_sign_23 : decode cX7_sign 23 = .ok (.getfield 13, 3) := by decide +kernel
theorem dX7_sign_26 : decode cX7_sign 26 = .ok (.iconst 4, 1) := by decide +kernel
theorem dX7_sign_27 : decode cX7_sign 27 = .ok (.iconst 4, 1) := by decide +kernel
theorem dX7_sign_28 : decode cX7_sign 28 = .ok (.iload_n 1, 1) := by decide +kernel
theorem dX7_sign_29 : decode cX7_sign 29 = .ok (.imul, 1) := by decide +kernel
theorem dX7_sign_30 : decode cX7_sign 30 = .ok (.iadd, 1) := by decide +kernel
theorem dX7_sign_31 : decode cX7_sign 31 = .ok (.iload_n 2, 1) := by decide +kernel
theorem dX7_sign_32 : decode cX7_sign 32 = .ok (.iadd, 1) := by decide +kernel
theorem dX7_sign_33 : decode cX7_sign 33 = .ok (.iaload, 1) := by decide +kernel
theorem dX7_sign_34 : decode cX7_sign 34 = .ok (.goto 5, 3) := by decide +kernel
theorem dX7_sign_37 : decode cX7_sign 37 = .ok (.bipush (-2), 2) := by decide +kernel
theorem dX7_sign_39 : decode cX7_sign 39 = .ok (.ireturn, 1) := by decide +kernel
theorem dX7_order_0 : decode cX7_order 0 = .ok (.aload_n 0, 1) := by decide +kernel
theorem dX7_order_1 : decode cX7_order 1 = .ok (.iload_n 1, 1) := by decide +kernel
theorem dX7_order_2 : decode cX7_order 2 = .ok (.invokevirtual 196, 3) := by decide +kernel
theorem dX7_order_5 : decode cX7_order 5 = .ok (.ifCond .eq 12, 3) := by decide +kernel
theorem dX7_order_8 : decode cX7_order 8 = .ok (.aload_n 0, 1) := by decide +kernel
theorem dX7_order_9 : decode cX7_order 9 = .ok (.getfield 13, 3) := by decide +kernel
theorem dX7_order_12 : decode cX7_order 12 = .ok (.iload_n 1, 1) := by decide +kernel
theorem dX7_order_13 : decode cX7_order 13 = .ok (.iaload, 1) := by decide +kernel
theorem dX7_order_14 : decode cX7_order 14 = .ok (.goto 4, 3) := by decide +kernel
theorem dX7_order_17 : decode cX7_order 17 = .ok (.iconst (-1), 1) := by decide +kernel
theorem dX7_order_18 : decode cX7_order 18 = .ok (.ireturn, 1) := by decide +kernel
theorem dX7_made_0 : decode cX7_made 0 = .ok (.aload_n 0, 1) := by decide +kernel
theorem dX7_made_1 : decode cX7_made 1 = .ok (.iload_n 1, 1) := by decide +kernel
theorem dX7_made_2 : decode cX7_made 2 = .ok (.invokevirtual 190, 3) := by decide +kernel
theorem dX7_made_5 : decode cX7_made 5 = .ok (.ifCond .eq 26, 3) := by decide +kernel
theorem dX7_made_8 : decode cX7_made 8 = .ok (.aload_n 0, 1) := by decide +kernel
theorem dX7_made_9 : decode cX7_made 9 = .ok (.iload_n 2, 1) := by decide +kernel
theorem dX7_made_10 : decode cX7_made 10 = .ok (.invokevirtual 193, 3) := by decide +kernel
theorem dX7_made_13 : decode cX7_made 13 = .ok (.ifCond .eq 18, 3) := by decide +kernel
theorem dX7_made_16 : decode cX7_made 16 = .ok (.aload_n 0, 1) := by decide +kernel
theorem dX7_made_17 : decode cX7_made 17 = .ok (.aload_n 0, 1) := by decide +kernel
theorem dX7_made_18 : decode cX7_made 18 = .ok (.getfield 13, 3) := by decide +kernel
theorem dX7_made_21 : decode cX7_made 21 = .ok (.iload_n 1, 1) := by decide +kernel
theorem dX7_made_22 : decode cX7_made 22 = .ok (.iload_n 2, 1) := by decide +kernel
theorem dX7_made_23 : decode cX7_made 23 = .ok (.bipush 15, 2) := by decide +kernel
theorem dX7_made_25 : decode cX7_made 25 = .ok (.invokevirtual 170, 3) := by decide +kernel
theorem dX7_made_28 : decode cX7_made 28 = .ok (.goto 4, 3) := by decide +kernel
theorem dX7_made_31 : decode cX7_made 31 = .ok (.iconst (-1), 1) := by decide +kernel
theorem dX7_made_32 : decode cX7_made 32 = .ok (.ireturn, 1) := by decide +kernel
theorem dX7_step_0 : decode cX7_step 0 = .ok (.aload_n 0, 1) := by decide +kernel
theorem dX7_step_1 : decode cX7_step 1 = .ok (.iload_n 1, 1) := by decide +kernel
theorem dX7_step_2 : decode cX7_step 2 = .ok (.invokevirtual 190, 3) := by decide +kernel
theorem dX7_step_5 : decode cX7_step 5 = .ok (.ifCond .eq 11, 3) := by decide +kernel
theorem dX7_step_8 : decode cX7_step 8 = .ok (.aload_n 0, 1) := by decide +kernel
theorem dX7_step_9 : decode cX7_step 9 = .ok (.iload_n 2, 1) := by decide +kernel
theorem dX7_step_10 : decode cX7_step 10 = .ok (.invokevirtual 193, 3) := by decide +kernel
theorem dX7_step_13 : decode cX7_step 13 = .ok (.ifCond .ne 5, 3) := by decide +kernel
theorem dX7_step_16 : decode cX7_step 16 = .ok (.iconst (-1), 1) := by decide +kernel
theorem dX7_step_17 : decode cX7_step 17 = .ok (.ireturn, 1) := by decide +kernel
theorem dX7_step_18 : decode cX7_step 18 = .ok (.iload_n 3, 1) := by decide +kernel
theorem dX7_step_19 : decode cX7_step 19 = .ok (.i2l, 1) := by decide +kernel
theorem dX7_step_20 : decode cX7_step 20 = .ok (.lconst 0, 1) := by decide +kernel
theorem dX7_step_21 : decode cX7_step 21 = .ok (.aload_n 0, 1) := by decide +kernel
theorem dX7_step_22 : decode cX7_step 22 = .ok (.getfield 101, 3) := by decide +kernel
theorem dX7_step_25 : decode cX7_step 25 = .ok (.i2l, 1) := by decide +kernel
theorem dX7_step_26 : decode cX7_step 26 = .ok (.invokestatic 78, 3) := by decide +kernel
theorem dX7_step_29 : decode cX7_step 29 = .ok (.ifCond .eq 22, 3) := by decide +kernel
theorem dX7_step_32 : decode cX7_step 32 = .ok (.aload_n 0, 1) := by decide +kernel
theorem dX7_step_33 : decode cX7_step 33 = .ok (.getfield 13, 3) := by decide +kernel
theorem dX7_step_36 : decode cX7_step 36 = .ok (.aload_n 0, 1) := by decide +kernel
theorem dX7_step_37 : decode cX7_step 37 = .ok (.iload_n 1, 1) := by decide +kernel
theorem dX7_step_38 : decode cX7_step 38 = .ok (.iload_n 2, 1) := by decide +kernel
theorem dX7_step_39 : decode cX7_step 39 = .ok (.invokevirtual 98, 3) := by decide +kernel
theorem dX7_step_42 : decode cX7_step 42 = .ok (.iload_n 3, 1) := by decide +kernel
theorem dX7_step_43 : decode cX7_step 43 = .ok (.bipush 15, 2) := by decide +kernel
theorem dX7_step_45 : decode cX7_step 45 = .ok (.invokestatic 105, 3) := by decide +kernel
theorem dX7_step_48 : decode cX7_step 48 = .ok (.goto 5, 3) := by decide +kernel
theorem dX7_step_51 : decode cX7_step 51 = .ok (.bipush (-2), 2) := by decide +kernel
theorem dX7_step_53 : decode cX7_step 53 = .ok (.ireturn, 1) := by decide +kernel
theorem dX7_apart_0 : decode cX7_apart 0 = .ok (.iload_n 1, 1) := by decide +kernel
theorem dX7_apart_1 : decode cX7_apart 1 = .ok (.invokestatic 201, 3) := by decide +kernel
theorem dX7_apart_4 : decode cX7_apart 4 = .ok (.ifCond .eq 13, 3) := by decide +kernel
theorem dX7_apart_7 : decode cX7_apart 7 = .ok (.iload_n 2, 1) := by decide +kernel
theorem dX7_apart_8 : decode cX7_apart 8 = .ok (.i2l, 1) := by decide +kernel
theorem dX7_apart_9 : decode cX7_apart 9 = .ok (.lconst 0, 1) := by decide +kernel
theorem dX7_apart_10 : decode cX7_apart 10 = .ok (.lconst 1, 1) := by decide +kernel
theorem dX7_apart_11 : decode cX7_apart 11 = .ok (.invokestatic 78, 3) := by decide +kernel
theorem dX7_apart_14 : decode cX7_apart 14 = .ok (.ifCond .ne 6, 3) := by decide +kernel
theorem dX7_apart_17 : decode cX7_apart 17 = .ok (.bipush (-2), 2) := by decide +kernel
theorem dX7_apart_19 : decode cX7_apart 19 = .ok (.ireturn, 1) := by decide +kernel
theorem dX7_apart_20 : decode cX7_apart 20 = .ok (.iconst 0, 1) := by decide +kernel
theorem dX7_apart_21 : decode cX7_apart 21 = .ok (.istore_n 3, 1) := by decide +kernel
theorem dX7_apart_22 : decode cX7_apart 22 = .ok (.bipush (-9), 2) := by decide +kernel
theorem dX7_apart_24 : decode cX7_apart 24 = .ok (.istore 4, 2) := by decide +kernel
theorem dX7_apart_26 : decode cX7_apart 26 = .ok (.aload_n 0, 1) := by decide +kernel
theorem dX7_apart_27 : decode cX7_apart 27 = .ok (.getfield 109, 3) := by decide +kernel
theorem dX7_apart_30 : decode cX7_apart 30 = .ok (.iconst 1, 1) := by decide +kernel
theorem dX7_apart_31 : decode cX7_apart 31 = .ok (.isub, 1) := by decide +kernel
theorem dX7_apart_32 : decode cX7_apart 32 = .ok (.istore 5, 2) := by decide +kernel
theorem dX7_apart_34 : decode cX7_apart 34 = .ok (.iload 5, 2) := by decide +kernel
theorem dX7_apart_36 : decode cX7_apart 36 = .ok (.ifCond .lt 86, 3) := by decide +kernel
theorem dX7_apart_39 : decode cX7_apart 39 = .ok (.aload_n 0, 1) := by decide +kernel
theorem dX7_apart_40 : decode cX7_apart 40 = .ok (.getfield 112, 3) := by decide +kernel
theorem dX7_apart_43 : decode cX7_apart 43 = .ok (.iconst 1, 1) := by decide +kernel
theorem dX7_apart_44 : decode cX7_apart 44 = .ok (.isub, 1) := by decide +kernel
theorem dX7_apart_45 : decode cX7_apart 45 = .ok (.istore 6, 2) := by decide +kernel
theorem dX7_apart_47 : decode cX7_apart 47 = .ok (.iload 6, 2) := by decide +kernel
theorem dX7_apart_49 : decode cX7_apart 49 = .ok (.ifCond .lt 67, 3) := by decide +kernel
theorem dX7_apart_52 : decode cX7_apart 52 = .ok (.aload_n 0, 1) := by decide +kernel
theorem dX7_apart_53 : decode cX7_apart 53 = .ok (.aload_n 0, 1) := by decide +kernel
theorem dX7_apart_54 : decode cX7_apart 54 = .ok (.getfield 13, 3) := by decide +kernel
theorem dX7_apart_57 : decode cX7_apart 57 = .ok (.iload 5, 2) := by decide +kernel
theorem dX7_apart_59 : decode cX7_apart 59 = .ok (.iload 6, 2) := by decide +kernel
theorem dX7_apart_61 : decode cX7_apart 61 = .ok (.bipush 15, 2) := by decide +kernel
theorem dX7_apart_63 : decode cX7_apart 63 = .ok (.invokevirtual 170, 3) := by decide +kernel
theorem dX7_apart_66 : decode cX7_apart 66 = .ok (.iload_n 1, 1) := by decide +kernel
theorem dX7_apart_67 : decode cX7_apart 67 = .ok (.if_icmp .ne 7, 3) := by decide +kernel
theorem dX7_apart_70 : decode cX7_apart 70 = .ok (.iconst 1, 1) := by decide +kernel
theorem dX7_apart_71 : decode cX7_apart 71 = .ok (.goto 4, 3) := by decide +kernel
theorem dX7_apart_74 : decode cX7_apart 74 = .ok (.iconst 0, 1) := by decide +kernel
theorem dX7_apart_75 : decode cX7_apart 75 = .ok (.istore 7, 2) := by decide +kernel
theorem dX7_apart_77 : decode cX7_apart 77 = .ok (.iload_n 3, 1) := by decide +kernel
theorem dX7_apart_78 : decode cX7_apart 78 = .ok (.iload 7, 2) := by decide +kernel
theorem dX7_apart_80 : decode cX7_apart 80 = .ok (.ifCond .eq 7, 3) := by decide +kernel
theorem dX7_apart_83 : decode cX7_apart 83 = .ok (.iconst 1, 1) := by decide +kernel
theorem dX7_apart_84 : decode cX7_apart 84 = .ok (.goto 4, 3) := by decide +kernel
theorem dX7_apart_87 : decode cX7_apart 87 = .ok (.iconst 0, 1) := by decide +kernel
theorem dX7_apart_88 : decode cX7_apart 88 = .ok (.iadd, 1) := by decide +kernel
theorem dX7_apart_89 : decode cX7_apart 89 = .ok (.istore_n 3, 1) := by decide +kernel
theorem dX7_apart_90 : decode cX7_apart 90 = .ok (.iload 7, 2) := by decide +kernel
theorem dX7_apart_92 : decode cX7_apart 92 = .ok (.ifCond .eq 14, 3) := by decide +kernel
theorem dX7_apart_95 : decode cX7_apart 95 = .ok (.bipush 10, 2) := by decide +kernel
theorem dX7_apart_97 : decode cX7_apart 97 = .ok (.iload 5, 2) := by decide +kernel
theorem dX7_apart_99 : decode cX7_apart 99 = .ok (.imul, 1) := by decide +kernel
theorem dX7_apart_100 : decode cX7_apart 100 = .ok (.iload 6, 2) := by decide +kernel
theorem dX7_apart_102 : decode cX7_apart 102 = .ok (.iadd, 1) := by decide +kernel
theorem dX7_apart_103 : decode cX7_apart 103 = .ok (.goto 5, 3) := by decide +kernel
theorem dX7_apart_106 : decode cX7_apart 106 = .ok (.iload 4, 2) := by decide +kernel
theorem dX7_apart_108 : decode cX7_apart 108 = .ok (.istore 4, 2) := by decide +kernel
theorem dX7_apart_110 : decode cX7_apart 110 = .ok (.iinc 6 (-1), 3) := by decide +kernel
theorem dX7_apart_113 : decode cX7_apart 113 = .ok (.goto (-66), 3) := by decide +kernel
theorem dX7_apart_116 : decode cX7_apart 116 = .ok (.iinc 5 (-1), 3) := by decide +kernel
theorem dX7_apart_119 : decode cX7_apart 119 = .ok (.goto (-85), 3) := by decide +kernel
theorem dX7_apart_122 : decode cX7_apart 122 = .ok (.iload_n 2, 1) := by decide +kernel
theorem dX7_apart_123 : decode cX7_apart 123 = .ok (.ifCond .ne 7, 3) := by decide +kernel
theorem dX7_apart_126 : decode cX7_apart 126 = .ok (.iload_n 3, 1) := by decide +kernel
theorem dX7_apart_127 : decode cX7_apart 127 = .ok (.goto 5, 3) := by decide +kernel
theorem dX7_apart_130 : decode cX7_apart 130 = .ok (.iload 4, 2) := by decide +kernel
theorem dX7_apart_132 : decode cX7_apart 132 = .ok (.ireturn, 1) := by decide +kernel
theorem dX7_form_0 : decode cX7_form 0 = .ok (.aload_n 0, 1) := by decide +kernel
theorem dX7_form_1 : decode cX7_form 1 = .ok (.iload_n 1, 1) := by decide +kernel
theorem dX7_form_2 : decode cX7_form 2 = .ok (.invokevirtual 190, 3) := by decide +kernel
theorem dX7_form_5 : decode cX7_form 5 = .ok (.ifCond .eq 27, 3) := by decide +kernel
theorem dX7_form_8 : decode cX7_form 8 = .ok (.aload_n 0, 1) := by decide +kernel
theorem dX7_form_9 : decode cX7_form 9 = .ok (.iload_n 2, 1) := by decide +kernel
theorem dX7_form_10 : decode cX7_form 10 = .ok (.invokevirtual 193, 3) := by decide +kernel
theorem dX7_form_13 : decode cX7_form 13 = .ok (.ifCond .eq 19, 3) := by decide +kernel
theorem dX7_form_16 : decode cX7_form 16 = .ok (.aload_n 0, 1) := by decide +kernel
theorem dX7_form_17 : decode cX7_form 17 = .ok (.getfield 13, 3) := by decide +kernel
theorem dX7_form_20 : decode cX7_form 20 = .ok (.bipush 20, 2) := by decide +kernel
theorem dX7_form_22 : decode cX7_form 22 = .ok (.iconst 3, 1) := by decide +kernel
theorem dX7_form_23 : decode cX7_form 23 = .ok (.iload_n 1, 1) := by decide +kernel
theorem dX7_form_24 : decode cX7_form 24 = .ok (.imul, 1) := by decide +kernel
theorem dX7_form_25 : decode cX7_form 25 = .ok (.iadd, 1) := by decide +kernel
theorem dX7_form_26 : decode cX7_form 26 = .ok (.iload_n 2, 1) := by decide +kernel
theorem dX7_form_27 : decode cX7_form 27 = .ok (.iadd, 1) := by decide +kernel
theorem dX7_form_28 : decode cX7_form 28 = .ok (.iaload, 1) := by decide +kernel
theorem dX7_form_29 : decode cX7_form 29 = .ok (.goto 4, 3) := by decide +kernel
theorem dX7_form_32 : decode cX7_form 32 = .ok (.iconst (-1), 1) := by decide +kernel
theorem dX7_form_33 : decode cX7_form 33 = .ok (.ireturn, 1) := by decide +kernel
theorem dX7_noteDoing_0 : decode cX7_noteDoing 0 = .ok (.iconst 0, 1) := by decide +kernel
theorem dX7_noteDoing_1 : decode cX7_noteDoing 1 = .ok (.istore_n 1, 1) := by decide +kernel
theorem dX7_noteDoing_2 : decode cX7_noteDoing 2 = .ok (.iload_n 1, 1) := by decide +kernel
theorem dX7_noteDoing_3 : decode cX7_noteDoing 3 = .ok (.bipush 32, 2) := by decide +kernel
theorem dX7_noteDoing_5 : decode cX7_noteDoing 5 = .ok (.if_icmp .ge 29, 3) := by decide +kernel
theorem dX7_noteDoing_8 : decode cX7_noteDoing 8 = .ok (.aload_n 0, 1) := by decide +kernel
theorem dX7_noteDoing_9 : decode cX7_noteDoing 9 = .ok (.getfield 19, 3) := by decide +kernel
theorem dX7_noteDoing_12 : decode cX7_noteDoing 12 = .ok (.bipush 32, 2) := by decide +kernel
theorem dX7_noteDoing_14 : decode cX7_noteDoing 14 = .ok (.aload_n 0, 1) := by decide +kernel
theorem dX7_noteDoing_15 : decode cX7_noteDoing 15 = .ok (.getfield 204, 3) := by decide +kernel
theorem dX7_noteDoing_18 : decode cX7_noteDoing 18 = .ok (.imul, 1) := by decide +kernel
theorem dX7_noteDoing_19 : decode cX7_noteDoing 19 = .ok (.iload_n 1, 1) := by decide +kernel
theorem dX7_noteDoing_20 : decode cX7_noteDoing 20 = .ok (.iadd, 1) := by decide +kernel
theorem dX7_noteDoing_21 : decode cX7_noteDoing 21 = .ok (.aload_n 0, 1) := by decide +kernel
theorem dX7_noteDoing_22 : decode cX7_noteDoing 22 = .ok (.getfield 13, 3) := by decide +kernel
theorem dX7_noteDoing_25 : decode cX7_noteDoing 25 = .ok (.iload_n 1, 1) := by decide +kernel
theorem dX7_noteDoing_26 : decode cX7_noteDoing 26 = .ok (.iaload, 1) := by decide +kernel
theorem dX7_noteDoing_27 : decode cX7_noteDoing 27 = .ok (.iastore, 1) := by decide +kernel
theorem dX7_noteDoing_28 : decode cX7_noteDoing 28 = .ok (.iinc 1 1, 3) := by decide +kernel
theorem dX7_noteDoing_31 : decode cX7_noteDoing 31 = .ok (.goto (-29), 3) := by decide +kernel
theorem dX7_noteDoing_34 : decode cX7_noteDoing 34 = .ok (.aload_n 0, 1) := by decide +kernel
theorem dX7_noteDoing_35 : decode cX7_noteDoing 35 = .ok (.aload_n 0, 1) := by decide +kernel
theorem dX7_noteDoing_36 : decode cX7_noteDoing 36 = .ok (.getfield 204, 3) := by decide +kernel
theorem dX7_noteDoing_39 : decode cX7_noteDoing 39 = .ok (.iconst 1, 1) := by decide +kernel
theorem dX7_noteDoing_40 : decode cX7_noteDoing 40 = .ok (.iadd, 1) := by decide +kernel
theorem dX7_noteDoing_41 : decode cX7_noteDoing 41 = .ok (.bipush 14, 2) := by decide +kernel
theorem dX7_noteDoing_43 : decode cX7_noteDoing 43 = .ok (.irem, 1) := by decide +kernel
theorem dX7_noteDoing_44 : decode cX7_noteDoing 44 = .ok (.putfield 204, 3) := by decide +kernel
theorem dX7_noteDoing_47 : decode cX7_noteDoing 47 = .ok (.aload_n 0, 1) := by decide +kernel
theorem dX7_noteDoing_48 : decode cX7_noteDoing 48 = .ok (.aload_n 0, 1) := by decide +kernel
theorem dX7_noteDoing_49 : decode cX7_noteDoing 49 = .ok (.getfield 167, 3) := by decide +kernel
theorem dX7_noteDoing_52 : decode cX7_noteDoing 52 = .ok (.bipush 14, 2) := by decide +kernel
theorem dX7_noteDoing_54 : decode cX7_noteDoing 54 = .ok (.if_icmp .ge 12, 3) := by decide +kernel
theorem dX7_noteDoing_57 : decode cX7_noteDoing 57 = .ok (.aload_n 0, 1) := by decide +kernel
theorem dX7_noteDoing_58 : decode cX7_noteDoing 58 = .ok (.getfield 167, 3) := by decide +kernel
theorem dX7_noteDoing_61 : decode cX7_noteDoing 61 = .ok (.iconst 1, 1) := by decide +kernel
theorem dX7_noteDoing_62 : decode cX7_noteDoing 62 = .ok (.iadd, 1) := by decide +kernel
theorem dX7_noteDoing_63 : decode cX7_noteDoing 63 = .ok (.goto 5, 3) := by decide +kernel
theorem dX7_noteDoing_66 : decode cX7_noteDoing 66 = .ok (.bipush 14, 2) := by decide +kernel
theorem dX7_noteDoing_68 : decode cX7_noteDoing 68 = .ok (.putfield 167, 3) := by decide +kernel
theorem dX7_noteDoing_71 : decode cX7_noteDoing 71 = .ok (.return_, 1) := by decide +kernel
theorem dX7_swapOn_0 : decode cX7_swapOn 0 = .ok (.aload_n 0, 1) := by decide +kernel
theorem dX7_swapOn_1 : decode cX7_swapOn 1 = .ok (.iload_n 1, 1) := by decide +kernel
theorem dX7_swapOn_2 : decode cX7_swapOn 2 = .ok (.iaload, 1) := by decide +kernel
theorem dX7_swapOn_3 : decode cX7_swapOn 3 = .ok (.istore_n 3, 1) := by decide +kernel
theorem dX7_swapOn_4 : decode cX7_swapOn 4 = .ok (.aload_n 0, 1) := by decide +kernel
theorem dX7_swapOn_5 : decode cX7_swapOn 5 = .ok (.iload_n 1, 1) := by decide +kernel
theorem dX7_swapOn_6 : decode cX7_swapOn 6 = .ok (.aload_n 0, 1) := by decide +kernel
theorem dX7_swapOn_7 : decode cX7_swapOn 7 = .ok (.iload_n 2, 1) := by decide +kernel
theorem dX7_swapOn_8 : decode cX7_swapOn 8 = .ok (.iaload, 1) := by decide +kernel
theorem dX7_swapOn_9 : decode cX7_swapOn 9 = .ok (.iastore, 1) := by decide +kernel
theorem dX7_swapOn_10 : decode cX7_swapOn 10 = .ok (.aload_n 0, 1) := by decide +kernel
theorem dX7_swapOn_11 : decode cX7_swapOn 11 = .ok (.iload_n 2, 1) := by decide +kernel
theorem dX7_swapOn_12 : decode cX7_swapOn 12 = .ok (.iload_n 3, 1) := by decide +kernel
theorem dX7_swapOn_13 : decode cX7_swapOn 13 = .ok (.iastore, 1) := by decide +kernel
theorem dX7_swapOn_14 : decode cX7_swapOn 14 = .ok (.return_, 1) := by decide +kernel
theorem dX7_isSign_0 : decode cX7_isSign 0 = .ok (.iload_n 0, 1) := by decide +kernel
theorem dX7_isSign_1 : decode cX7_isSign 1 = .ok (.tableswitch 71 0 3 #[31, 41, 51, 61], 31) := by decide +kernel
theorem dX7_isSign_32 : decode cX7_isSign 32 = .ok (.iload_n 1, 1) := by decide +kernel
theorem dX7_isSign_33 : decode cX7_isSign 33 = .ok (.i2l, 1) := by decide +kernel
theorem dX7_isSign_34 : decode cX7_isSign 34 = .ok (.lconst 1, 1) := by decide +kernel
theorem dX7_isSign_35 : decode cX7_isSign 35 = .ok (.ldc2_w 82, 3) := by decide +kernel
theorem dX7_isSign_38 : decode cX7_isSign 38 = .ok (.invokestatic 78, 3) := by decide +kernel
theorem dX7_isSign_41 : decode cX7_isSign 41 = .ok (.ireturn, 1) := by decide +kernel
theorem dX7_isSign_42 : decode cX7_isSign 42 = .ok (.iload_n 1, 1) := by decide +kernel
end
section
theorem dX7_isSign_43 : decode cX7_isSign 43 = .ok (.i2l, 1) := by decide +kernel
theorem dX7_isSign_44 : decode cX7_isSign 44 = .ok (.lconst 0, 1) := by decide +kernel
theorem dX7_isSign_45 : decode cX7_isSign 45 = .ok (.ldc2_w 82, 3) := by decide +kernel
theorem dX7_isSign_48 : decode cX7_isSign 48 = .ok (.invokestatic 78, 3) := by decide +kernel
theorem dX7_isSign_51 : decode cX7_isSign 51 = .ok (.ireturn, 1) := by decide +kernel
theorem dX7_isSign_52 : decode cX7_isSign 52 = .ok (.iload_n 1, 1) := by decide +kernel
theorem dX7_isSign_53 : decode cX7_isSign 53 = .ok (.i2l, 1) := by decide +kernel
theorem dX7_isSign_54 : decode cX7_isSign 54 = .ok (.lconst 1, 1) := by decide +kernel
theorem dX7_isSign_55 : decode cX7_isSign 55 = .ok (.ldc2_w 207, 3) := by decide +kernel
theorem dX7_isSign_58 : decode cX7_isSign 58 = .ok (.invokestatic 78, 3) := by decide +kernel
theorem dX7_isSign_61 : decode cX7_isSign 61 = .ok (.ireturn, 1) := by decide +kernel
theorem dX7_isSign_62 : decode cX7_isSign 62 = .ok (.iload_n 1, 1) := by decide +kernel
theorem dX7_isSign_63 : decode cX7_isSign 63 = .ok (.i2l, 1) := by decide +kernel
theorem dX7_isSign_64 : decode cX7_isSign 64 = .ok (.lconst 1, 1) := by decide +kernel
theorem dX7_isSign_65 : decode cX7_isSign 65 = .ok (.ldc2_w 207, 3) := by decide +kernel
theorem dX7_isSign_68 : decode cX7_isSign 68 = .ok (.invokestatic 78, 3) := by decide +kernel
theorem dX7_isSign_71 : decode cX7_isSign 71 = .ok (.ireturn, 1) := by decide +kernel
theorem dX7_isSign_72 : decode cX7_isSign 72 = .ok (.iconst 0, 1) := by decide +kernel
theorem dX7_isSign_73 : decode cX7_isSign 73 = .ok (.ireturn, 1) := by decide +kernel
theorem dX7_swap_0 : decode cX7_swap 0 = .ok (.aload_n 0, 1) := by decide +kernel
theorem dX7_swap_1 : decode cX7_swap 1 = .ok (.iload_n 1, 1) := by decide +kernel
theorem dX7_swap_2 : decode cX7_swap 2 = .ok (.invokevirtual 196, 3) := by decide +kernel
theorem dX7_swap_5 : decode cX7_swap 5 = .ok (.ifCond .eq 11, 3) := by decide +kernel
theorem dX7_swap_8 : decode cX7_swap 8 = .ok (.aload_n 0, 1) := by decide +kernel
theorem dX7_swap_9 : decode cX7_swap 9 = .ok (.iload_n 2, 1) := by decide +kernel
theorem dX7_swap_10 : decode cX7_swap 10 = .ok (.invokevirtual 196, 3) := by decide +kernel
theorem dX7_swap_13 : decode cX7_swap 13 = .ok (.ifCond .ne 5, 3) := by decide +kernel
theorem dX7_swap_16 : decode cX7_swap 16 = .ok (.iconst (-1), 1) := by decide +kernel
theorem dX7_swap_17 : decode cX7_swap 17 = .ok (.ireturn, 1) := by decide +kernel
theorem dX7_swap_18 : decode cX7_swap 18 = .ok (.aload_n 0, 1) := by decide +kernel
theorem dX7_swap_19 : decode cX7_swap 19 = .ok (.invokevirtual 209, 3) := by decide +kernel
theorem dX7_swap_22 : decode cX7_swap 22 = .ok (.aload_n 0, 1) := by decide +kernel
theorem dX7_swap_23 : decode cX7_swap 23 = .ok (.getfield 13, 3) := by decide +kernel
theorem dX7_swap_26 : decode cX7_swap 26 = .ok (.iload_n 1, 1) := by decide +kernel
theorem dX7_swap_27 : decode cX7_swap 27 = .ok (.iload_n 2, 1) := by decide +kernel
theorem dX7_swap_28 : decode cX7_swap 28 = .ok (.invokestatic 212, 3) := by decide +kernel
theorem dX7_swap_31 : decode cX7_swap 31 = .ok (.aload_n 0, 1) := by decide +kernel
theorem dX7_swap_32 : decode cX7_swap 32 = .ok (.aload_n 0, 1) := by decide +kernel
theorem dX7_swap_33 : decode cX7_swap 33 = .ok (.getfield 13, 3) := by decide +kernel
theorem dX7_swap_36 : decode cX7_swap 36 = .ok (.bipush 15, 2) := by decide +kernel
theorem dX7_swap_38 : decode cX7_swap 38 = .ok (.invokevirtual 173, 3) := by decide +kernel
theorem dX7_swap_41 : decode cX7_swap 41 = .ok (.ireturn, 1) := by decide +kernel
theorem dX7_resign_0 : decode cX7_resign 0 = .ok (.aload_n 0, 1) := by decide +kernel
theorem dX7_resign_1 : decode cX7_resign 1 = .ok (.iload_n 1, 1) := by decide +kernel
theorem dX7_resign_2 : decode cX7_resign 2 = .ok (.invokevirtual 196, 3) := by decide +kernel
theorem dX7_resign_5 : decode cX7_resign 5 = .ok (.ifCond .ne 5, 3) := by decide +kernel
theorem dX7_resign_8 : decode cX7_resign 8 = .ok (.iconst (-1), 1) := by decide +kernel
theorem dX7_resign_9 : decode cX7_resign 9 = .ok (.ireturn, 1) := by decide +kernel
theorem dX7_resign_10 : decode cX7_resign 10 = .ok (.iload_n 2, 1) := by decide +kernel
theorem dX7_resign_11 : decode cX7_resign 11 = .ok (.iload_n 3, 1) := by decide +kernel
theorem dX7_resign_12 : decode cX7_resign 12 = .ok (.invokestatic 216, 3) := by decide +kernel
theorem dX7_resign_15 : decode cX7_resign 15 = .ok (.ifCond .ne 6, 3) := by decide +kernel
theorem dX7_resign_18 : decode cX7_resign 18 = .ok (.bipush (-2), 2) := by decide +kernel
theorem dX7_resign_20 : decode cX7_resign 20 = .ok (.ireturn, 1) := by decide +kernel
theorem dX7_resign_21 : decode cX7_resign 21 = .ok (.aload_n 0, 1) := by decide +kernel
theorem dX7_resign_22 : decode cX7_resign 22 = .ok (.invokevirtual 209, 3) := by decide +kernel
theorem dX7_resign_25 : decode cX7_resign 25 = .ok (.aload_n 0, 1) := by decide +kernel
theorem dX7_resign_26 : decode cX7_resign 26 = .ok (.getfield 13, 3) := by decide +kernel
theorem dX7_resign_29 : decode cX7_resign 29 = .ok (.iconst 4, 1) := by decide +kernel
theorem dX7_resign_30 : decode cX7_resign 30 = .ok (.iconst 4, 1) := by decide +kernel
theorem dX7_resign_31 : decode cX7_resign 31 = .ok (.iload_n 1, 1) := by decide +kernel
theorem dX7_resign_32 : decode cX7_resign 32 = .ok (.imul, 1) := by decide +kernel
theorem dX7_resign_33 : decode cX7_resign 33 = .ok (.iadd, 1) := by decide +kernel
theorem dX7_resign_34 : decode cX7_resign 34 = .ok (.iload_n 2, 1) := by decide +kernel
theorem dX7_resign_35 : decode cX7_resign 35 = .ok (.iadd, 1) := by decide +kernel
theorem dX7_resign_36 : decode cX7_resign 36 = .ok (.iaload, 1) := by decide +kernel
theorem dX7_resign_37 : decode cX7_resign 37 = .ok (.istore 4, 2) := by decide +kernel
theorem dX7_resign_39 : decode cX7_resign 39 = .ok (.aload_n 0, 1) := by decide +kernel
theorem dX7_resign_40 : decode cX7_resign 40 = .ok (.getfield 13, 3) := by decide +kernel
theorem dX7_resign_43 : decode cX7_resign 43 = .ok (.iconst 4, 1) := by decide +kernel
theorem dX7_resign_44 : decode cX7_resign 44 = .ok (.iconst 4, 1) := by decide +kernel
theorem dX7_resign_45 : decode cX7_resign 45 = .ok (.iload_n 1, 1) := by decide +kernel
theorem dX7_resign_46 : decode cX7_resign 46 = .ok (.imul, 1) := by decide +kernel
theorem dX7_resign_47 : decode cX7_resign 47 = .ok (.iadd, 1) := by decide +kernel
theorem dX7_resign_48 : decode cX7_resign 48 = .ok (.iload_n 2, 1) := by decide +kernel
theorem dX7_resign_49 : decode cX7_resign 49 = .ok (.iadd, 1) := by decide +kernel
theorem dX7_resign_50 : decode cX7_resign 50 = .ok (.iload_n 3, 1) := by decide +kernel
theorem dX7_resign_51 : decode cX7_resign 51 = .ok (.iastore, 1) := by decide +kernel
theorem dX7_resign_52 : decode cX7_resign 52 = .ok (.iload 4, 2) := by decide +kernel
theorem dX7_resign_54 : decode cX7_resign 54 = .ok (.ireturn, 1) := by decide +kernel
theorem dX7_tell_0 : decode cX7_tell 0 = .ok (.aload_n 0, 1) := by decide +kernel
theorem dX7_tell_1 : decode cX7_tell 1 = .ok (.iload_n 1, 1) := by decide +kernel
theorem dX7_tell_2 : decode cX7_tell 2 = .ok (.invokevirtual 190, 3) := by decide +kernel
theorem dX7_tell_5 : decode cX7_tell 5 = .ok (.ifCond .eq 11, 3) := by decide +kernel
theorem dX7_tell_8 : decode cX7_tell 8 = .ok (.aload_n 0, 1) := by decide +kernel
theorem dX7_tell_9 : decode cX7_tell 9 = .ok (.iload_n 2, 1) := by decide +kernel
theorem dX7_tell_10 : decode cX7_tell 10 = .ok (.invokevirtual 193, 3) := by decide +kernel
theorem dX7_tell_13 : decode cX7_tell 13 = .ok (.ifCond .ne 5, 3) := by decide +kernel
theorem dX7_tell_16 : decode cX7_tell 16 = .ok (.iconst (-1), 1) := by decide +kernel
theorem dX7_tell_17 : decode cX7_tell 17 = .ok (.ireturn, 1) := by decide +kernel
theorem dX7_tell_18 : decode cX7_tell 18 = .ok (.iload_n 3, 1) := by decide +kernel
theorem dX7_tell_19 : decode cX7_tell 19 = .ok (.bipush (-9), 2) := by decide +kernel
theorem dX7_tell_21 : decode cX7_tell 21 = .ok (.if_icmp .eq 13, 3) := by decide +kernel
theorem dX7_tell_24 : decode cX7_tell 24 = .ok (.iload_n 3, 1) := by decide +kernel
theorem dX7_tell_25 : decode cX7_tell 25 = .ok (.invokestatic 201, 3) := by decide +kernel
theorem dX7_tell_28 : decode cX7_tell 28 = .ok (.ifCond .ne 6, 3) := by decide +kernel
theorem dX7_tell_31 : decode cX7_tell 31 = .ok (.bipush (-2), 2) := by decide +kernel
theorem dX7_tell_33 : decode cX7_tell 33 = .ok (.ireturn, 1) := by decide +kernel
theorem dX7_tell_34 : decode cX7_tell 34 = .ok (.aload_n 0, 1) := by decide +kernel
theorem dX7_tell_35 : decode cX7_tell 35 = .ok (.invokevirtual 209, 3) := by decide +kernel
theorem dX7_tell_38 : decode cX7_tell 38 = .ok (.aload_n 0, 1) := by decide +kernel
theorem dX7_tell_39 : decode cX7_tell 39 = .ok (.getfield 13, 3) := by decide +kernel
theorem dX7_tell_42 : decode cX7_tell 42 = .ok (.bipush 20, 2) := by decide +kernel
theorem dX7_tell_44 : decode cX7_tell 44 = .ok (.iconst 3, 1) := by decide +kernel
theorem dX7_tell_45 : decode cX7_tell 45 = .ok (.iload_n 1, 1) := by decide +kernel
theorem dX7_tell_46 : decode cX7_tell 46 = .ok (.imul, 1) := by decide +kernel
theorem dX7_tell_47 : decode cX7_tell 47 = .ok (.iadd, 1) := by decide +kernel
theorem dX7_tell_48 : decode cX7_tell 48 = .ok (.iload_n 2, 1) := by decide +kernel
theorem dX7_tell_49 : decode cX7_tell 49 = .ok (.iadd, 1) := by decide +kernel
theorem dX7_tell_50 : decode cX7_tell 50 = .ok (.iload_n 3, 1) := by decide +kernel
theorem dX7_tell_51 : decode cX7_tell 51 = .ok (.iastore, 1) := by decide +kernel
theorem dX7_tell_52 : decode cX7_tell 52 = .ok (.aload_n 0, 1) := by decide +kernel
theorem dX7_tell_53 : decode cX7_tell 53 = .ok (.aload_n 0, 1) := by decide +kernel
theorem dX7_tell_54 : decode cX7_tell 54 = .ok (.getfield 13, 3) := by decide +kernel
theorem dX7_tell_57 : decode cX7_tell 57 = .ok (.invokevirtual 181, 3) := by decide +kernel
theorem dX7_tell_60 : decode cX7_tell 60 = .ok (.ireturn, 1) := by decide +kernel
theorem dX7_undo_0 : decode cX7_undo 0 = .ok (.aload_n 0, 1) := by decide +kernel
theorem dX7_undo_1 : decode cX7_undo 1 = .ok (.getfield 167, 3) := by decide +kernel
theorem dX7_undo_4 : decode cX7_undo 4 = .ok (.ifCond .ne 6, 3) := by decide +kernel
theorem dX7_undo_7 : decode cX7_undo 7 = .ok (.bipush (-3), 2) := by decide +kernel
theorem dX7_undo_9 : decode cX7_undo 9 = .ok (.ireturn, 1) := by decide +kernel
theorem dX7_undo_10 : decode cX7_undo 10 = .ok (.aload_n 0, 1) := by decide +kernel
theorem dX7_undo_11 : decode cX7_undo 11 = .ok (.dup, 1) := by decide +kernel
theorem dX7_undo_12 : decode cX7_undo 12 = .ok (.getfield 167, 3) := by decide +kernel
theorem dX7_undo_15 : decode cX7_undo 15 = .ok (.iconst 1, 1) := by decide +kernel
theorem dX7_undo_16 : decode cX7_undo 16 = .ok (.isub, 1) := by decide +kernel
theorem dX7_undo_17 : decode cX7_undo 17 = .ok (.putfield 167, 3) := by decide +kernel
theorem dX7_undo_20 : decode cX7_undo 20 = .ok (.aload_n 0, 1) := by decide +kernel
theorem dX7_undo_21 : decode cX7_undo 21 = .ok (.aload_n 0, 1) := by decide +kernel
theorem dX7_undo_22 : decode cX7_undo 22 = .ok (.getfield 204, 3) := by decide +kernel
theorem dX7_undo_25 : decode cX7_undo 25 = .ok (.bipush 14, 2) := by decide +kernel
theorem dX7_undo_27 : decode cX7_undo 27 = .ok (.iadd, 1) := by decide +kernel
theorem dX7_undo_28 : decode cX7_undo 28 = .ok (.iconst 1, 1) := by decide +kernel
theorem dX7_undo_29 : decode cX7_undo 29 = .ok (.isub, 1) := by decide +kernel
theorem dX7_undo_30 : decode cX7_undo 30 = .ok (.bipush 14, 2) := by decide +kernel
theorem dX7_undo_32 : decode cX7_undo 32 = .ok (.irem, 1) := by decide +kernel
theorem dX7_undo_33 : decode cX7_undo 33 = .ok (.putfield 204, 3) := by decide +kernel
theorem dX7_undo_36 : decode cX7_undo 36 = .ok (.iconst 0, 1) := by decide +kernel
theorem dX7_undo_37 : decode cX7_undo 37 = .ok (.istore_n 1, 1) := by decide +kernel
theorem dX7_undo_38 : decode cX7_undo 38 = .ok (.iload_n 1, 1) := by decide +kernel
theorem dX7_undo_39 : decode cX7_undo 39 = .ok (.bipush 32, 2) := by decide +kernel
theorem dX7_undo_41 : decode cX7_undo 41 = .ok (.if_icmp .ge 29, 3) := by decide +kernel
theorem dX7_undo_44 : decode cX7_undo 44 = .ok (.aload_n 0, 1) := by decide +kernel
theorem dX7_undo_45 : decode cX7_undo 45 = .ok (.getfield 13, 3) := by decide +kernel
theorem dX7_undo_48 : decode cX7_undo 48 = .ok (.iload_n 1, 1) := by decide +kernel
theorem dX7_undo_49 : decode cX7_undo 49 = .ok (.aload_n 0, 1) := by decide +kernel
theorem dX7_undo_50 : decode cX7_undo 50 = .ok (.getfield 19, 3) := by decide +kernel
theorem dX7_undo_53 : decode cX7_undo 53 = .ok (.bipush 32, 2) := by decide +kernel
theorem dX7_undo_55 : decode cX7_undo 55 = .ok (.aload_n 0, 1) := by decide +kernel
theorem dX7_undo_56 : decode cX7_undo 56 = .ok (.getfield 204, 3) := by decide +kernel
theorem dX7_undo_59 : decode cX7_undo 59 = .ok (.imul, 1) := by decide +kernel
theorem dX7_undo_60 : decode cX7_undo 60 = .ok (.iload_n 1, 1) := by decide +kernel
theorem dX7_undo_61 : decode cX7_undo 61 = .ok (.iadd, 1) := by decide +kernel
theorem dX7_undo_62 : decode cX7_undo 62 = .ok (.iaload, 1) := by decide +kernel
theorem dX7_undo_63 : decode cX7_undo 63 = .ok (.iastore, 1) := by decide +kernel
theorem dX7_undo_64 : decode cX7_undo 64 = .ok (.iinc 1 1, 3) := by decide +kernel
theorem dX7_undo_67 : decode cX7_undo 67 = .ok (.goto (-29), 3) := by decide +kernel
theorem dX7_undo_70 : decode cX7_undo 70 = .ok (.aload_n 0, 1) := by decide +kernel
theorem dX7_undo_71 : decode cX7_undo 71 = .ok (.getfield 167, 3) := by decide +kernel
theorem dX7_undo_74 : decode cX7_undo 74 = .ok (.ireturn, 1) := by decide +kernel
theorem dX7_areCrossing_0 : decode cX7_areCrossing 0 = .ok (.iconst 0, 1) := by decide +kernel
theorem dX7_areCrossing_1 : decode cX7_areCrossing 1 = .ok (.istore 4, 2) := by decide +kernel
theorem dX7_areCrossing_3 : decode cX7_areCrossing 3 = .ok (.iconst 0, 1) := by decide +kernel
theorem dX7_areCrossing_4 : decode cX7_areCrossing 4 = .ok (.istore 5, 2) := by decide +kernel
theorem dX7_areCrossing_6 : decode cX7_areCrossing 6 = .ok (.iload 5, 2) := by decide +kernel
theorem dX7_areCrossing_8 : decode cX7_areCrossing 8 = .ok (.aload_n 0, 1) := by decide +kernel
theorem dX7_areCrossing_9 : decode cX7_areCrossing 9 = .ok (.getfield 109, 3) := by decide +kernel
theorem dX7_areCrossing_12 : decode cX7_areCrossing 12 = .ok (.aload_n 0, 1) := by decide +kernel
theorem dX7_areCrossing_13 : decode cX7_areCrossing 13 = .ok (.getfield 112, 3) := by decide +kernel
theorem dX7_areCrossing_16 : decode cX7_areCrossing 16 = .ok (.imul, 1) := by decide +kernel
theorem dX7_areCrossing_17 : decode cX7_areCrossing 17 = .ok (.if_icmp .ge 76, 3) := by decide +kernel
theorem dX7_areCrossing_20 : decode cX7_areCrossing 20 = .ok (.aload_n 0, 1) := by decide +kernel
theorem dX7_areCrossing_21 : decode cX7_areCrossing 21 = .ok (.iload 5, 2) := by decide +kernel
theorem dX7_areCrossing_23 : decode cX7_areCrossing 23 = .ok (.aload_n 0, 1) := by decide +kernel
theorem dX7_areCrossing_24 : decode cX7_areCrossing 24 = .ok (.getfield 112, 3) := by decide +kernel
theorem dX7_areCrossing_27 : decode cX7_areCrossing 27 = .ok (.idiv, 1) := by decide +kernel
theorem dX7_areCrossing_28 : decode cX7_areCrossing 28 = .ok (.iload 5, 2) := by decide +kernel
theorem dX7_areCrossing_30 : decode cX7_areCrossing 30 = .ok (.aload_n 0, 1) := by decide +kernel
theorem dX7_areCrossing_31 : decode cX7_areCrossing 31 = .ok (.getfield 112, 3) := by decide +kernel
theorem dX7_areCrossing_34 : decode cX7_areCrossing 34 = .ok (.irem, 1) := by decide +kernel
theorem dX7_areCrossing_35 : decode cX7_areCrossing 35 = .ok (.invokevirtual 98, 3) := by decide +kernel
theorem dX7_areCrossing_38 : decode cX7_areCrossing 38 = .ok (.istore 6, 2) := by decide +kernel
theorem dX7_areCrossing_40 : decode cX7_areCrossing 40 = .ok (.aload_n 1, 1) := by decide +kernel
theorem dX7_areCrossing_41 : decode cX7_areCrossing 41 = .ok (.iload_n 3, 1) := by decide +kernel
theorem dX7_areCrossing_42 : decode cX7_areCrossing 42 = .ok (.aload_n 1, 1) := by decide +kernel
theorem dX7_areCrossing_43 : decode cX7_areCrossing 43 = .ok (.iload_n 2, 1) := by decide +kernel
theorem dX7_areCrossing_44 : decode cX7_areCrossing 44 = .ok (.iload 6, 2) := by decide +kernel
theorem dX7_areCrossing_46 : decode cX7_areCrossing 46 = .ok (.invokestatic 91, 3) := by decide +kernel
theorem dX7_areCrossing_49 : decode cX7_areCrossing 49 = .ok (.invokestatic 91, 3) := by decide +kernel
theorem dX7_areCrossing_52 : decode cX7_areCrossing 52 = .ok (.istore 7, 2) := by decide +kernel
theorem dX7_areCrossing_54 : decode cX7_areCrossing 54 = .ok (.aload_n 1, 1) := by decide +kernel
theorem dX7_areCrossing_55 : decode cX7_areCrossing 55 = .ok (.iload_n 2, 1) := by decide +kernel
theorem dX7_areCrossing_56 : decode cX7_areCrossing 56 = .ok (.aload_n 1, 1) := by decide +kernel
theorem dX7_areCrossing_57 : decode cX7_areCrossing 57 = .ok (.iload_n 3, 1) := by decide +kernel
theorem dX7_areCrossing_58 : decode cX7_areCrossing 58 = .ok (.iload 6, 2) := by decide +kernel
theorem dX7_areCrossing_60 : decode cX7_areCrossing 60 = .ok (.invokestatic 91, 3) := by decide +kernel
theorem dX7_areCrossing_63 : decode cX7_areCrossing 63 = .ok (.invokestatic 91, 3) := by decide +kernel
theorem dX7_areCrossing_66 : decode cX7_areCrossing 66 = .ok (.istore 8, 2) := by decide +kernel
theorem dX7_areCrossing_68 : decode cX7_areCrossing 68 = .ok (.iload 4, 2) := by decide +kernel
theorem dX7_areCrossing_70 : decode cX7_areCrossing 70 = .ok (.ifCond .ne 10, 3) := by decide +kernel
theorem dX7_areCrossing_73 : decode cX7_areCrossing 73 = .ok (.iload 7, 2) := by decide +kernel
theorem dX7_areCrossing_75 : decode cX7_areCrossing 75 = .ok (.iload 8, 2) := by decide +kernel
theorem dX7_areCrossing_77 : decode cX7_areCrossing 77 = .ok (.if_icmp .eq 7, 3) := by decide +kernel
theorem dX7_areCrossing_80 : decode cX7_areCrossing 80 = .ok (.iconst 1, 1) := by decide +kernel
theorem dX7_areCrossing_81 : decode cX7_areCrossing 81 = .ok (.goto 4, 3) := by decide +kernel
theorem dX7_areCrossing_84 : decode cX7_areCrossing 84 = .ok (.iconst 0, 1) := by decide +kernel
theorem dX7_areCrossing_85 : decode cX7_areCrossing 85 = .ok (.istore 4, 2) := by decide +kernel
theorem dX7_areCrossing_87 : decode cX7_areCrossing 87 = .ok (.iinc 5 1, 3) := by decide +kernel
theorem dX7_areCrossing_90 : decode cX7_areCrossing 90 = .ok (.goto (-84), 3) := by decide +kernel
theorem dX7_areCrossing_93 : decode cX7_areCrossing 93 = .ok (.iload 4, 2) := by decide +kernel
theorem dX7_areCrossing_95 : decode cX7_areCrossing 95 = .ok (.ireturn, 1) := by decide +kernel
theorem dX7_cross_0 : decode cX7_cross 0 = .ok (.aload_n 0, 1) := by decide +kernel
theorem dX7_cross_1 : decode cX7_cross 1 = .ok (.iload_n 1, 1) := by decide +kernel
theorem dX7_cross_2 : decode cX7_cross 2 = .ok (.invokevirtual 196, 3) := by decide +kernel
theorem dX7_cross_5 : decode cX7_cross 5 = .ok (.ifCond .eq 11, 3) := by decide +kernel
theorem dX7_cross_8 : decode cX7_cross 8 = .ok (.aload_n 0, 1) := by decide +kernel
theorem dX7_cross_9 : decode cX7_cross 9 = .ok (.iload_n 2, 1) := by decide +kernel
theorem dX7_cross_10 : decode cX7_cross 10 = .ok (.invokevirtual 196, 3) := by decide +kernel
theorem dX7_cross_13 : decode cX7_cross 13 = .ok (.ifCond .ne 5, 3) := by decide +kernel
theorem dX7_cross_16 : decode cX7_cross 16 = .ok (.iconst (-1), 1) := by decide +kernel
theorem dX7_cross_17 : decode cX7_cross 17 = .ok (.ireturn, 1) := by decide +kernel
theorem dX7_cross_18 : decode cX7_cross 18 = .ok (.aload_n 0, 1) := by decide +kernel
theorem dX7_cross_19 : decode cX7_cross 19 = .ok (.aload_n 0, 1) := by decide +kernel
theorem dX7_cross_20 : decode cX7_cross 20 = .ok (.getfield 13, 3) := by decide +kernel
theorem dX7_cross_23 : decode cX7_cross 23 = .ok (.iload_n 1, 1) := by decide +kernel
theorem dX7_cross_24 : decode cX7_cross 24 = .ok (.iload_n 2, 1) := by decide +kernel
theorem dX7_cross_25 : decode cX7_cross 25 = .ok (.invokevirtual 219, 3) := by decide +kernel
theorem dX7_cross_28 : decode cX7_cross 28 = .ok (.ifCond .eq 7, 3) := by decide +kernel
theorem dX7_cross_31 : decode cX7_cross 31 = .ok (.iconst 1, 1) := by decide +kernel
theorem dX7_cross_32 : decode cX7_cross 32 = .ok (.goto 4, 3) := by decide +kernel
theorem dX7_cross_35 : decode cX7_cross 35 = .ok (.iconst 0, 1) := by decide +kernel
theorem dX7_cross_36 : decode cX7_cross 36 = .ok (.ireturn, 1) := by decide +kernel
theorem dX7_changeAt_0 : decode cX7_changeAt 0 = .ok (.iload_n 1, 1) := by decide +kernel
theorem dX7_changeAt_1 : decode cX7_changeAt 1 = .ok (.iconst 2, 1) := by decide +kernel
theorem dX7_changeAt_2 : decode cX7_changeAt 2 = .ok (.aload_n 0, 1) := by decide +kernel
theorem dX7_changeAt_3 : decode cX7_changeAt 3 = .ok (.getfield 101, 3) := by decide +kernel
theorem dX7_changeAt_6 : decode cX7_changeAt 6 = .ok (.iconst 1, 1) := by decide +kernel
theorem dX7_changeAt_7 : decode cX7_changeAt 7 = .ok (.isub, 1) := by decide +kernel
theorem dX7_changeAt_8 : decode cX7_changeAt 8 = .ok (.iload_n 2, 1) := by decide +kernel
theorem dX7_changeAt_9 : decode cX7_changeAt 9 = .ok (.isub, 1) := by decide +kernel
theorem dX7_changeAt_10 : decode cX7_changeAt 10 = .ok (.imul, 1) := by decide +kernel
theorem dX7_changeAt_11 : decode cX7_changeAt 11 = .ok (.ishr, 1) := by decide +kernel
theorem dX7_changeAt_12 : decode cX7_changeAt 12 = .ok (.iconst 3, 1) := by decide +kernel
theorem dX7_changeAt_13 : decode cX7_changeAt 13 = .ok (.iand, 1) := by decide +kernel
theorem dX7_changeAt_14 : decode cX7_changeAt 14 = .ok (.ireturn, 1) := by decide +kernel
theorem dX7_isOrder_0 : decode cX7_isOrder 0 = .ok (.iconst 0, 1) := by decide +kernel
theorem dX7_isOrder_1 : decode cX7_isOrder 1 = .ok (.istore_n 2, 1) := by decide +kernel
theorem dX7_isOrder_2 : decode cX7_isOrder 2 = .ok (.iconst 0, 1) := by decide +kernel
theorem dX7_isOrder_3 : decode cX7_isOrder 3 = .ok (.istore_n 3, 1) := by decide +kernel
theorem dX7_isOrder_4 : decode cX7_isOrder 4 = .ok (.iload_n 3, 1) := by decide +kernel
theorem dX7_isOrder_5 : decode cX7_isOrder 5 = .ok (.aload_n 0, 1) := by decide +kernel
theorem dX7_isOrder_6 : decode cX7_isOrder 6 = .ok (.getfield 101, 3) := by decide +kernel
theorem dX7_isOrder_9 : decode cX7_isOrder 9 = .ok (.if_icmp .ge 20, 3) := by decide +kernel
theorem dX7_isOrder_12 : decode cX7_isOrder 12 = .ok (.iload_n 2, 1) := by decide +kernel
theorem dX7_isOrder_13 : decode cX7_isOrder 13 = .ok (.iconst 1, 1) := by decide +kernel
theorem dX7_isOrder_14 : decode cX7_isOrder 14 = .ok (.aload_n 0, 1) := by decide +kernel
theorem dX7_isOrder_15 : decode cX7_isOrder 15 = .ok (.iload_n 1, 1) := by decide +kernel
theorem dX7_isOrder_16 : decode cX7_isOrder 16 = .ok (.iload_n 3, 1) := by decide +kernel
theorem dX7_isOrder_17 : decode cX7_isOrder 17 = .ok (.invokevirtual 223, 3) := by decide +kernel
theorem dX7_isOrder_20 : decode cX7_isOrder 20 = .ok (.ishl, 1) := by decide +kernel
theorem dX7_isOrder_21 : decode cX7_isOrder 21 = .ok (.ior, 1) := by decide +kernel
theorem dX7_isOrder_22 : decode cX7_isOrder 22 = .ok (.istore_n 2, 1) := by decide +kernel
theorem dX7_isOrder_23 : decode cX7_isOrder 23 = .ok (.iinc 3 1, 3) := by decide +kernel
theorem dX7_isOrder_26 : decode cX7_isOrder 26 = .ok (.goto (-22), 3) := by decide +kernel
theorem dX7_isOrder_29 : decode cX7_isOrder 29 = .ok (.iload_n 2, 1) := by decide +kernel
theorem dX7_isOrder_30 : decode cX7_isOrder 30 = .ok (.iconst 1, 1) := by decide +kernel
theorem dX7_isOrder_31 : decode cX7_isOrder 31 = .ok (.aload_n 0, 1) := by decide +kernel
theorem dX7_isOrder_32 : decode cX7_isOrder 32 = .ok (.getfield 101, 3) := by decide +kernel
theorem dX7_isOrder_35 : decode cX7_isOrder 35 = .ok (.ishl, 1) := by decide +kernel
theorem dX7_isOrder_36 : decode cX7_isOrder 36 = .ok (.iconst 1, 1) := by decide +kernel
theorem dX7_isOrder_37 : decode cX7_isOrder 37 = .ok (.isub, 1) := by decide +kernel
theorem dX7_isOrder_38 : decode cX7_isOrder 38 = .ok (.if_icmp .ne 7, 3) := by decide +kernel
theorem dX7_isOrder_41 : decode cX7_isOrder 41 = .ok (.iconst 1, 1) := by decide +kernel
theorem dX7_isOrder_42 : decode cX7_isOrder 42 = .ok (.goto 4, 3) := by decide +kernel
theorem dX7_isOrder_45 : decode cX7_isOrder 45 = .ok (.iconst 0, 1) := by decide +kernel
theorem dX7_isOrder_46 : decode cX7_isOrder 46 = .ok (.ireturn, 1) := by decide +kernel
theorem dX7_figuresOf_0 : decode cX7_figuresOf 0 = .ok (.iconst 0, 1) := by decide +kernel
theorem dX7_figuresOf_1 : decode cX7_figuresOf 1 = .ok (.istore_n 2, 1) := by decide +kernel
theorem dX7_figuresOf_2 : decode cX7_figuresOf 2 = .ok (.iconst 0, 1) := by decide +kernel
theorem dX7_figuresOf_3 : decode cX7_figuresOf 3 = .ok (.istore_n 3, 1) := by decide +kernel
theorem dX7_figuresOf_4 : decode cX7_figuresOf 4 = .ok (.iload_n 3, 1) := by decide +kernel
theorem dX7_figuresOf_5 : decode cX7_figuresOf 5 = .ok (.aload_n 0, 1) := by decide +kernel
theorem dX7_figuresOf_6 : decode cX7_figuresOf 6 = .ok (.getfield 101, 3) := by decide +kernel
theorem dX7_figuresOf_9 : decode cX7_figuresOf 9 = .ok (.if_icmp .ge 21, 3) := by decide +kernel
theorem dX7_figuresOf_12 : decode cX7_figuresOf 12 = .ok (.bipush 10, 2) := by decide +kernel
theorem dX7_figuresOf_14 : decode cX7_figuresOf 14 = .ok (.iload_n 2, 1) := by decide +kernel
theorem dX7_figuresOf_15 : decode cX7_figuresOf 15 = .ok (.imul, 1) := by decide +kernel
theorem dX7_figuresOf_16 : decode cX7_figuresOf 16 = .ok (.aload_n 0, 1) := by decide +kernel
theorem dX7_figuresOf_17 : decode cX7_figuresOf 17 = .ok (.iload_n 1, 1) := by decide +kernel
theorem dX7_figuresOf_18 : decode cX7_figuresOf 18 = .ok (.iload_n 3, 1) := by decide +kernel
theorem dX7_figuresOf_19 : decode cX7_figuresOf 19 = .ok (.invokevirtual 223, 3) := by decide +kernel
theorem dX7_figuresOf_22 : decode cX7_figuresOf 22 = .ok (.iadd, 1) := by decide +kernel
theorem dX7_figuresOf_23 : decode cX7_figuresOf 23 = .ok (.istore_n 2, 1) := by decide +kernel
theorem dX7_figuresOf_24 : decode cX7_figuresOf 24 = .ok (.iinc 3 1, 3) := by decide +kernel
theorem dX7_figuresOf_27 : decode cX7_figuresOf 27 = .ok (.goto (-23), 3) := by decide +kernel
theorem dX7_figuresOf_30 : decode cX7_figuresOf 30 = .ok (.iload_n 2, 1) := by decide +kernel
theorem dX7_figuresOf_31 : decode cX7_figuresOf 31 = .ok (.ireturn, 1) := by decide +kernel
theorem dX7_layTrial_0 : decode cX7_layTrial 0 = .ok (.iconst 0, 1) := by decide +kernel
theorem dX7_layTrial_1 : decode cX7_layTrial 1 = .ok (.istore_n 1, 1) := by decide +kernel
theorem dX7_layTrial_2 : decode cX7_layTrial 2 = .ok (.iload_n 1, 1) := by decide +kernel
theorem dX7_layTrial_3 : decode cX7_layTrial 3 = .ok (.bipush 32, 2) := by decide +kernel
theorem dX7_layTrial_5 : decode cX7_layTrial 5 = .ok (.if_icmp .ge 21, 3) := by decide +kernel
theorem dX7_layTrial_8 : decode cX7_layTrial 8 = .ok (.aload_n 0, 1) := by decide +kernel
theorem dX7_layTrial_9 : decode cX7_layTrial 9 = .ok (.getfield 16, 3) := by decide +kernel
theorem dX7_layTrial_12 : decode cX7_layTrial 12 = .ok (.iload_n 1, 1) := by decide +kernel
theorem dX7_layTrial_13 : decode cX7_layTrial 13 = .ok (.aload_n 0, 1) := by decide +kernel
theorem dX7_layTrial_14 : decode cX7_layTrial 14 = .ok (.getfield 13, 3) := by decide +kernel
theorem dX7_layTrial_17 : decode cX7_layTrial 17 = .ok (.iload_n 1, 1) := by decide +kernel
theorem dX7_layTrial_18 : decode cX7_layTrial 18 = .ok (.iaload, 1) := by decide +kernel
theorem dX7_layTrial_19 : decode cX7_layTrial 19 = .ok (.iastore, 1) := by decide +kernel
theorem dX7_layTrial_20 : decode cX7_layTrial 20 = .ok (.iinc 1 1, 3) := by decide +kernel
theorem dX7_layTrial_23 : decode cX7_layTrial 23 = .ok (.goto (-21), 3) := by decide +kernel
theorem dX7_layTrial_26 : decode cX7_layTrial 26 = .ok (.return_, 1) := by decide +kernel
theorem dX7_best_0 : decode cX7_best 0 = .ok (.iload_n 1, 1) := by decide +kernel
theorem dX7_best_1 : decode cX7_best 1 = .ok (.i2l, 1) := by decide +kernel
theorem dX7_best_2 : decode cX7_best 2 = .ok (.lconst 0, 1) := by decide +kernel
theorem dX7_best_3 : decode cX7_best 3 = .ok (.ldc2_w 226, 3) := by decide +kernel
theorem dX7_best_6 : decode cX7_best 6 = .ok (.invokestatic 78, 3) := by decide +kernel
theorem dX7_best_9 : decode cX7_best 9 = .ok (.ifCond .ne 6, 3) := by decide +kernel
theorem dX7_best_12 : decode cX7_best 12 = .ok (.bipush (-2), 2) := by decide +kernel
theorem dX7_best_14 : decode cX7_best 14 = .ok (.ireturn, 1) := by decide +kernel
theorem dX7_best_15 : decode cX7_best 15 = .ok (.aload_n 0, 1) := by decide +kernel
theorem dX7_best_16 : decode cX7_best 16 = .ok (.invokevirtual 228, 3) := by decide +kernel
theorem dX7_best_19 : decode cX7_best 19 = .ok (.bipush (-9), 2) := by decide +kernel
theorem dX7_best_21 : decode cX7_best 21 = .ok (.istore_n 2, 1) := by decide +kernel
theorem dX7_best_22 : decode cX7_best 22 = .ok (.iconst 0, 1) := by decide +kernel
theorem dX7_best_23 : decode cX7_best 23 = .ok (.istore_n 3, 1) := by decide +kernel
theorem dX7_best_24 : decode cX7_best 24 = .ok (.iconst 0, 1) := by decide +kernel
theorem dX7_best_25 : decode cX7_best 25 = .ok (.istore 4, 2) := by decide +kernel
theorem dX7_best_27 : decode cX7_best 27 = .ok (.iconst 0, 1) := by decide +kernel
theorem dX7_best_28 : decode cX7_best 28 = .ok (.istore 5, 2) := by decide +kernel
theorem dX7_best_30 : decode cX7_best 30 = .ok (.iload 5, 2) := by decide +kernel
theorem dX7_best_32 : decode cX7_best 32 = .ok (.iconst 1, 1) := by decide +kernel
theorem dX7_best_33 : decode cX7_best 33 = .ok (.iconst 2, 1) := by decide +kernel
theorem dX7_best_34 : decode cX7_best 34 = .ok (.aload_n 0, 1) := by decide +kernel
theorem dX7_best_35 : decode cX7_best 35 = .ok (.getfield 101, 3) := by decide +kernel
theorem dX7_best_38 : decode cX7_best 38 = .ok (.imul, 1) := by decide +kernel
theorem dX7_best_39 : decode cX7_best 39 = .ok (.ishl, 1) := by decide +kernel
theorem dX7_best_40 : decode cX7_best 40 = .ok (.if_icmp .ge 134, 3) := by decide +kernel
theorem dX7_best_43 : decode cX7_best 43 = .ok (.aload_n 0, 1) := by decide +kernel
theorem dX7_best_44 : decode cX7_best 44 = .ok (.iload 5, 2) := by decide +kernel
theorem dX7_best_46 : decode cX7_best 46 = .ok (.invokevirtual 231, 3) := by decide +kernel
theorem dX7_best_49 : decode cX7_best 49 = .ok (.ifCond .eq 119, 3) := by decide +kernel
theorem dX7_best_52 : decode cX7_best 52 = .ok (.iconst 0, 1) := by decide +kernel
theorem dX7_best_53 : decode cX7_best 53 = .ok (.istore 6, 2) := by decide +kernel
theorem dX7_best_55 : decode cX7_best 55 = .ok (.iload 6, 2) := by decide +kernel
theorem dX7_best_57 : decode cX7_best 57 = .ok (.aload_n 0, 1) := by decide +kernel
theorem dX7_best_58 : decode cX7_best 58 = .ok (.getfield 101, 3) := by decide +kernel
theorem dX7_best_61 : decode cX7_best 61 = .ok (.if_icmp .ge 24, 3) := by decide +kernel
theorem dX7_best_64 : decode cX7_best 64 = .ok (.aload_n 0, 1) := by decide +kernel
theorem dX7_best_65 : decode cX7_best 65 = .ok (.getfield 16, 3) := by decide +kernel
theorem dX7_best_68 : decode cX7_best 68 = .ok (.iload 6, 2) := by decide +kernel
theorem dX7_best_70 : decode cX7_best 70 = .ok (.aload_n 0, 1) := by decide +kernel
theorem dX7_best_71 : decode cX7_best 71 = .ok (.iload 5, 2) := by decide +kernel
theorem dX7_best_73 : decode cX7_best 73 = .ok (.iload 6, 2) := by decide +kernel
theorem dX7_best_75 : decode cX7_best 75 = .ok (.invokevirtual 223, 3) := by decide +kernel
theorem dX7_best_78 : decode cX7_best 78 = .ok (.iastore, 1) := by decide +kernel
theorem dX7_best_79 : decode cX7_best 79 = .ok (.iinc 6 1, 3) := by decide +kernel
theorem dX7_best_82 : decode cX7_best 82 = .ok (.goto (-27), 3) := by decide +kernel
theorem dX7_best_85 : decode cX7_best 85 = .ok (.aload_n 0, 1) := by decide +kernel
theorem dX7_best_86 : decode cX7_best 86 = .ok (.aload_n 0, 1) := by decide +kernel
theorem dX7_best_87 : decode cX7_best 87 = .ok (.getfield 16, 3) := by decide +kernel
theorem dX7_best_90 : decode cX7_best 90 = .ok (.invokevirtual 181, 3) := by decide +kernel
theorem dX7_best_93 : decode cX7_best 93 = .ok (.istore 6, 2) := by decide +kernel
theorem dX7_best_95 : decode cX7_best 95 = .ok (.iload_n 2, 1) := by decide +kernel
theorem dX7_best_96 : decode cX7_best 96 = .ok (.bipush (-9), 2) := by decide +kernel
theorem dX7_best_98 : decode cX7_best 98 = .ok (.if_icmp .eq 9, 3) := by decide +kernel
theorem dX7_best_101 : decode cX7_best 101 = .ok (.iload 6, 2) := by decide +kernel
theorem dX7_best_103 : decode cX7_best 103 = .ok (.iload_n 2, 1) := by decide +kernel
theorem dX7_best_104 : decode cX7_best 104 = .ok (.if_icmp .ge 7, 3) := by decide +kernel
theorem dX7_best_107 : decode cX7_best 107 = .ok (.iconst 1, 1) := by decide +kernel
theorem dX7_best_108 : decode cX7_best 108 = .ok (.goto 4, 3) := by decide +kernel
theorem dX7_best_111 : decode cX7_best 111 = .ok (.iconst 0, 1) := by decide +kernel
theorem dX7_best_112 : decode cX7_best 112 = .ok (.istore 7, 2) := by decide +kernel
theorem dX7_best_114 : decode cX7_best 114 = .ok (.iload 7, 2) := by decide +kernel
theorem dX7_best_116 : decode cX7_best 116 = .ok (.ifCond .eq 12, 3) := by decide +kernel
theorem dX7_best_119 : decode cX7_best 119 = .ok (.aload_n 0, 1) := by decide +kernel
theorem dX7_best_120 : decode cX7_best 120 = .ok (.iload 5, 2) := by decide +kernel
theorem dX7_best_122 : decode cX7_best 122 = .ok (.invokevirtual 234, 3) := by decide +kernel
theorem dX7_best_125 : decode cX7_best 125 = .ok (.goto 4, 3) := by decide +kernel
theorem dX7_best_128 : decode cX7_best 128 = .ok (.iload_n 3, 1) := by decide +kernel
theorem dX7_best_129 : decode cX7_best 129 = .ok (.istore_n 3, 1) := by decide +kernel
theorem dX7_best_130 : decode cX7_best 130 = .ok (.iload 7, 2) := by decide +kernel
theorem dX7_best_132 : decode cX7_best 132 = .ok (.ifCond .eq 7, 3) := by decide +kernel
theorem dX7_best_135 : decode cX7_best 135 = .ok (.iconst 1, 1) := by decide +kernel
theorem dX7_best_136 : decode cX7_best 136 = .ok (.goto 18, 3) := by decide +kernel
theorem dX7_best_139 : decode cX7_best 139 = .ok (.iload 6, 2) := by decide +kernel
theorem dX7_best_141 : decode cX7_best 141 = .ok (.iload_n 2, 1) := by decide +kernel
theorem dX7_best_142 : decode cX7_best 142 = .ok (.if_icmp .ne 10, 3) := by decide +kernel
theorem dX7_best_145 : decode cX7_best 145 = .ok (.iload 4, 2) := by decide +kernel
theorem dX7_best_147 : decode cX7_best 147 = .ok (.iconst 1, 1) := by decide +kernel
theorem dX7_best_148 : decode cX7_best 148 = .ok (.iadd, 1) := by decide +kernel
theorem dX7_best_149 : decode cX7_best 149 = .ok (.goto 5, 3) := by decide +kernel
theorem dX7_best_152 : decode cX7_best 152 = .ok (.iload 4, 2) := by decide +kernel
theorem dX7_best_154 : decode cX7_best 154 = .ok (.istore 4, 2) := by decide +kernel
theorem dX7_best_156 : decode cX7_best 156 = .ok (.iload 7, 2) := by decide +kernel
theorem dX7_best_158 : decode cX7_best 158 = .ok (.ifCond .eq 8, 3) := by decide +kernel
theorem dX7_best_161 : decode cX7_best 161 = .ok (.iload 6, 2) := by decide +kernel
theorem dX7_best_163 : decode cX7_best 163 = .ok (.goto 4, 3) := by decide +kernel
theorem dX7_best_166 : decode cX7_best 166 = .ok (.iload_n 2, 1) := by decide +kernel
theorem dX7_best_167 : decode cX7_best 167 = .ok (.istore_n 2, 1) := by decide +kernel
theorem dX7_best_168 : decode cX7_best 168 = .ok (.iinc 5 1, 3) := by decide +kernel
theorem dX7_best_171 : decode cX7_best 171 = .ok (.goto (-141), 3) := by decide +kernel
theorem dX7_best_174 : decode cX7_best 174 = .ok (.iload_n 1, 1) := by decide +kernel
theorem dX7_best_175 : decode cX7_best 175 = .ok (.ifCond .ne 7, 3) := by decide +kernel
theorem dX7_best_178 : decode cX7_best 178 = .ok (.iload_n 2, 1) := by decide +kernel
theorem dX7_best_179 : decode cX7_best 179 = .ok (.goto 14, 3) := by decide +kernel
theorem dX7_best_182 : decode cX7_best 182 = .ok (.iload_n 1, 1) := by decide +kernel
theorem dX7_best_183 : decode cX7_best 183 = .ok (.iconst 1, 1) := by decide +kernel
theorem dX7_best_184 : decode cX7_best 184 = .ok (.if_icmp .ne 7, 3) := by decide +kernel
theorem dX7_best_187 : decode cX7_best 187 = .ok (.iload_n 3, 1) := by decide +kernel
theorem dX7_best_188 : decode cX7_best 188 = .ok (.goto 5, 3) := by decide +kernel
theorem dX7_best_191 : decode cX7_best 191 = .ok (.iload 4, 2) := by decide +kernel
theorem dX7_best_193 : decode cX7_best 193 = .ok (.ireturn, 1) := by decide +kernel
theorem dX7_judged_0 : decode cX7_judged 0 = .ok (.iload_n 1, 1) := by decide +kernel
theorem dX7_judged_1 : decode cX7_judged 1 = .ok (.tableswitch 257 1 6 #[39, 74, 109, 151, 192, 230], 39) := by decide +kernel
theorem dX7_judged_40 : decode cX7_judged 40 = .ok (.iload_n 2, 1) := by decide +kernel
theorem dX7_judged_41 : decode cX7_judged 41 = .ok (.ifCond .ne 20, 3) := by decide +kernel
theorem dX7_judged_44 : decode cX7_judged 44 = .ok (.aload_n 0, 1) := by decide +kernel
theorem dX7_judged_45 : decode cX7_judged 45 = .ok (.iload_n 3, 1) := by decide +kernel
theorem dX7_judged_46 : decode cX7_judged 46 = .ok (.invokevirtual 196, 3) := by decide +kernel
theorem dX7_judged_49 : decode cX7_judged 49 = .ok (.ifCond .eq 12, 3) := by decide +kernel
theorem dX7_judged_52 : decode cX7_judged 52 = .ok (.aload_n 0, 1) := by decide +kernel
theorem dX7_judged_53 : decode cX7_judged 53 = .ok (.iload 4, 2) := by decide +kernel
theorem dX7_judged_55 : decode cX7_judged 55 = .ok (.invokevirtual 196, 3) := by decide +kernel
theorem dX7_judged_58 : decode cX7_judged 58 = .ok (.ifCond .ne 5, 3) := by decide +kernel
theorem dX7_judged_61 : decode cX7_judged 61 = .ok (.iconst 0, 1) := by decide +kernel
theorem dX7_judged_62 : decode cX7_judged 62 = .ok (.ireturn, 1) := by decide +kernel
theorem dX7_judged_63 : decode cX7_judged 63 = .ok (.aload_n 0, 1) := by decide +kernel
theorem dX7_judged_64 : decode cX7_judged 64 = .ok (.getfield 16, 3) := by decide +kernel
theorem dX7_judged_67 : decode cX7_judged 67 = .ok (.iload_n 3, 1) := by decide +kernel
theorem dX7_judged_68 : decode cX7_judged 68 = .ok (.iload 4, 2) := by decide +kernel
theorem dX7_judged_70 : decode cX7_judged 70 = .ok (.invokestatic 212, 3) := by decide +kernel
theorem dX7_judged_73 : decode cX7_judged 73 = .ok (.iconst 1, 1) := by decide +kernel
theorem dX7_judged_74 : decode cX7_judged 74 = .ok (.ireturn, 1) := by decide +kernel
theorem dX7_judged_75 : decode cX7_judged 75 = .ok (.aload_n 0, 1) := by decide +kernel
theorem dX7_judged_76 : decode cX7_judged 76 = .ok (.iload_n 2, 1) := by decide +kernel
theorem dX7_judged_77 : decode cX7_judged 77 = .ok (.invokevirtual 196, 3) := by decide +kernel
theorem dX7_judged_80 : decode cX7_judged 80 = .ok (.ifCond .eq 12, 3) := by decide +kernel
theorem dX7_judged_83 : decode cX7_judged 83 = .ok (.iload_n 3, 1) := by decide +kernel
theorem dX7_judged_84 : decode cX7_judged 84 = .ok (.iload 4, 2) := by decide +kernel
theorem dX7_judged_86 : decode cX7_judged 86 = .ok (.invokestatic 216, 3) := by decide +kernel
theorem dX7_judged_89 : decode cX7_judged 89 = .ok (.ifCond .ne 5, 3) := by decide +kernel
theorem dX7_judged_92 : decode cX7_judged 92 = .ok (.iconst 0, 1) := by decide +kernel
theorem dX7_judged_93 : decode cX7_judged 93 = .ok (.ireturn, 1) := by decide +kernel
theorem dX7_judged_94 : decode cX7_judged 94 = .ok (.aload_n 0, 1) := by decide +kernel
theorem dX7_judged_95 : decode cX7_judged 95 = .ok (.getfield 16, 3) := by decide +kernel
theorem dX7_judged_98 : decode cX7_judged 98 = .ok (.iconst 4, 1) := by decide +kernel
theorem dX7_judged_99 : decode cX7_judged 99 = .ok (.iconst 4, 1) := by decide +kernel
theorem dX7_judged_100 : decode cX7_judged 100 = .ok (.iload_n 2, 1) := by decide +kernel
theorem dX7_judged_101 : decode cX7_judged 101 = .ok (.imul, 1) := by decide +kernel
theorem dX7_judged_102 : decode cX7_judged 102 = .ok (.iadd, 1) := by decide +kernel
theorem dX7_judged_103 : decode cX7_judged 103 = .ok (.iload_n 3, 1) := by decide +kernel
theorem dX7_judged_104 : decode cX7_judged 104 = .ok (.iadd, 1) := by decide +kernel
theorem dX7_judged_105 : decode cX7_judged 105 = .ok (.iload 4, 2) := by decide +kernel
theorem dX7_judged_107 : decode cX7_judged 107 = .ok (.iastore, 1) := by decide +kernel
theorem dX7_judged_108 : decode cX7_judged 108 = .ok (.iconst 1, 1) := by decide +kernel
theorem dX7_judged_109 : decode cX7_judged 109 = .ok (.ireturn, 1) := by decide +kernel
theorem dX7_judged_110 : decode cX7_judged 110 = .ok (.aload_n 0, 1) := by decide +kernel
theorem dX7_judged_111 : decode cX7_judged 111 = .ok (.iload_n 2, 1) := by decide +kernel
theorem dX7_judged_112 : decode cX7_judged 112 = .ok (.invokevirtual 190, 3) := by decide +kernel
theorem dX7_judged_115 : decode cX7_judged 115 = .ok (.ifCond .eq 35, 3) := by decide +kernel
theorem dX7_judged_118 : decode cX7_judged 118 = .ok (.aload_n 0, 1) := by decide +kernel
theorem dX7_judged_119 : decode cX7_judged 119 = .ok (.iload_n 3, 1) := by decide +kernel
theorem dX7_judged_120 : decode cX7_judged 120 = .ok (.invokevirtual 193, 3) := by decide +kernel
theorem dX7_judged_123 : decode cX7_judged 123 = .ok (.ifCond .eq 27, 3) := by decide +kernel
theorem dX7_judged_126 : decode cX7_judged 126 = .ok (.aload_n 0, 1) := by decide +kernel
theorem dX7_judged_127 : decode cX7_judged 127 = .ok (.aload_n 0, 1) := by decide +kernel
theorem dX7_judged_128 : decode cX7_judged 128 = .ok (.getfield 16, 3) := by decide +kernel
theorem dX7_judged_131 : decode cX7_judged 131 = .ok (.iload_n 2, 1) := by decide +kernel
theorem dX7_judged_132 : decode cX7_judged 132 = .ok (.iload_n 3, 1) := by decide +kernel
theorem dX7_judged_133 : decode cX7_judged 133 = .ok (.bipush 15, 2) := by decide +kernel
theorem dX7_judged_135 : decode cX7_judged 135 = .ok (.invokevirtual 170, 3) := by decide +kernel
theorem dX7_judged_138 : decode cX7_judged 138 = .ok (.invokestatic 69, 3) := by decide +kernel
theorem dX7_judged_141 : decode cX7_judged 141 = .ok (.iload 4, 2) := by decide +kernel
theorem dX7_judged_143 : decode cX7_judged 143 = .ok (.if_icmp .ne 7, 3) := by decide +kernel
theorem dX7_judged_146 : decode cX7_judged 146 = .ok (.iconst 1, 1) := by decide +kernel
theorem dX7_judged_147 : decode cX7_judged 147 = .ok (.goto 4, 3) := by decide +kernel
theorem dX7_judged_150 : decode cX7_judged 150 = .ok (.iconst 0, 1) := by decide +kernel
theorem dX7_judged_151 : decode cX7_judged 151 = .ok (.ireturn, 1) := by decide +kernel
theorem dX7_judged_152 : decode cX7_judged 152 = .ok (.iload_n 2, 1) := by decide +kernel
theorem dX7_judged_153 : decode cX7_judged 153 = .ok (.ifCond .ne 38, 3) := by decide +kernel
theorem dX7_judged_156 : decode cX7_judged 156 = .ok (.aload_n 0, 1) := by decide +kernel
theorem dX7_judged_157 : decode cX7_judged 157 = .ok (.iload_n 3, 1) := by decide +kernel
theorem dX7_judged_158 : decode cX7_judged 158 = .ok (.invokevirtual 196, 3) := by decide +kernel
theorem dX7_judged_161 : decode cX7_judged 161 = .ok (.ifCond .eq 30, 3) := by decide +kernel
theorem dX7_judged_164 : decode cX7_judged 164 = .ok (.aload_n 0, 1) := by decide +kernel
theorem dX7_judged_165 : decode cX7_judged 165 = .ok (.iload 4, 2) := by decide +kernel
theorem dX7_judged_167 : decode cX7_judged 167 = .ok (.invokevirtual 196, 3) := by decide +kernel
theorem dX7_judged_170 : decode cX7_judged 170 = .ok (.ifCond .eq 21, 3) := by decide +kernel
theorem dX7_judged_173 : decode cX7_judged 173 = .ok (.aload_n 0, 1) := by decide +kernel
theorem dX7_judged_174 : decode cX7_judged 174 = .ok (.aload_n 0, 1) := by decide +kernel
theorem dX7_judged_175 : decode cX7_judged 175 = .ok (.getfield 16, 3) := by decide +kernel
theorem dX7_judged_178 : decode cX7_judged 178 = .ok (.iload_n 3, 1) := by decide +kernel
theorem dX7_judged_179 : decode cX7_judged 179 = .ok (.iload 4, 2) := by decide +kernel
theorem dX7_judged_181 : decode cX7_judged 181 = .ok (.invokevirtual 219, 3) := by decide +kernel
theorem dX7_judged_184 : decode cX7_judged 184 = .ok (.ifCond .eq 7, 3) := by decide +kernel
theorem dX7_judged_187 : decode cX7_judged 187 = .ok (.iconst 1, 1) := by decide +kernel
theorem dX7_judged_188 : decode cX7_judged 188 = .ok (.goto 4, 3) := by decide +kernel
theorem dX7_judged_191 : decode cX7_judged 191 = .ok (.iconst 0, 1) := by decide +kernel
theorem dX7_judged_192 : decode cX7_judged 192 = .ok (.ireturn, 1) := by decide +kernel
theorem dX7_judged_193 : decode cX7_judged 193 = .ok (.aload_n 0, 1) := by decide +kernel
theorem dX7_judged_194 : decode cX7_judged 194 = .ok (.iload_n 2, 1) := by decide +kernel
theorem dX7_judged_195 : decode cX7_judged 195 = .ok (.invokevirtual 196, 3) := by decide +kernel
theorem dX7_judged_198 : decode cX7_judged 198 = .ok (.ifCond .eq 31, 3) := by decide +kernel
theorem dX7_judged_201 : decode cX7_judged 201 = .ok (.iload_n 3, 1) := by decide +kernel
theorem dX7_judged_202 : decode cX7_judged 202 = .ok (.ifCond .ne 27, 3) := by decide +kernel
theorem dX7_judged_205 : decode cX7_judged 205 = .ok (.iload 4, 2) := by decide +kernel
theorem dX7_judged_207 : decode cX7_judged 207 = .ok (.ifCond .ne 22, 3) := by decide +kernel
theorem dX7_judged_210 : decode cX7_judged 210 = .ok (.aload_n 0, 1) := by decide +kernel
theorem dX7_judged_211 : decode cX7_judged 211 = .ok (.aload_n 0, 1) := by decide +kernel
theorem dX7_judged_212 : decode cX7_judged 212 = .ok (.getfield 16, 3) := by decide +kernel
theorem dX7_judged_215 : decode cX7_judged 215 = .ok (.invokevirtual 177, 3) := by decide +kernel
theorem dX7_judged_218 : decode cX7_judged 218 = .ok (.iload_n 2, 1) := by decide +kernel
theorem dX7_judged_219 : decode cX7_judged 219 = .ok (.invokestatic 88, 3) := by decide +kernel
theorem dX7_judged_222 : decode cX7_judged 222 = .ok (.ifCond .eq 7, 3) := by decide +kernel
theorem dX7_judged_225 : decode cX7_judged 225 = .ok (.iconst 1, 1) := by decide +kernel
theorem dX7_judged_226 : decode cX7_judged 226 = .ok (.goto 4, 3) := by decide +kernel
theorem dX7_judged_229 : decode cX7_judged 229 = .ok (.iconst 0, 1) := by decide +kernel
theorem dX7_judged_230 : decode cX7_judged 230 = .ok (.ireturn, 1) := by decide +kernel
theorem dX7_judged_231 : decode cX7_judged 231 = .ok (.iload_n 2, 1) := by decide +kernel
theorem dX7_judged_232 : decode cX7_judged 232 = .ok (.ifCond .ne 24, 3) := by decide +kernel
theorem dX7_judged_235 : decode cX7_judged 235 = .ok (.iload_n 3, 1) := by decide +kernel
theorem dX7_judged_236 : decode cX7_judged 236 = .ok (.ifCond .ne 20, 3) := by decide +kernel
theorem dX7_judged_239 : decode cX7_judged 239 = .ok (.aload_n 0, 1) := by decide +kernel
theorem dX7_judged_240 : decode cX7_judged 240 = .ok (.aload_n 0, 1) := by decide +kernel
theorem dX7_judged_241 : decode cX7_judged 241 = .ok (.getfield 16, 3) := by decide +kernel
theorem dX7_judged_244 : decode cX7_judged 244 = .ok (.invokevirtual 181, 3) := by decide +kernel
theorem dX7_judged_247 : decode cX7_judged 247 = .ok (.iload 4, 2) := by decide +kernel
theorem dX7_judged_249 : decode cX7_judged 249 = .ok (.if_icmp .gt 7, 3) := by decide +kernel
theorem dX7_judged_252 : decode cX7_judged 252 = .ok (.iconst 1, 1) := by decide +kernel
theorem dX7_judged_253 : decode cX7_judged 253 = .ok (.goto 4, 3) := by decide +kernel
theorem dX7_judged_256 : decode cX7_judged 256 = .ok (.iconst 0, 1) := by decide +kernel
theorem dX7_judged_257 : decode cX7_judged 257 = .ok (.ireturn, 1) := by decide +kernel
theorem dX7_judged_258 : decode cX7_judged 258 = .ok (.iconst 0, 1) := by decide +kernel
theorem dX7_judged_259 : decode cX7_judged 259 = .ok (.ireturn, 1) := by decide +kernel
theorem dX7_tenThousands_0 : decode cX7_tenThousands 0 = .ok (.lconst 1, 1) := by decide +kernel
theorem dX7_tenThousands_1 : decode cX7_tenThousands 1 = .ok (.lstore_n 1, 1) := by decide +kernel
theorem dX7_tenThousands_2 : decode cX7_tenThousands 2 = .ok (.iconst 0, 1) := by decide +kernel
theorem dX7_tenThousands_3 : decode cX7_tenThousands 3 = .ok (.istore_n 3, 1) := by decide +kernel
theorem dX7_tenThousands_4 : decode cX7_tenThousands 4 = .ok (.iload_n 3, 1) := by decide +kernel
theorem dX7_tenThousands_5 : decode cX7_tenThousands 5 = .ok (.iload_n 0, 1) := by decide +kernel
theorem dX7_tenThousands_6 : decode cX7_tenThousands 6 = .ok (.if_icmp .ge 15, 3) := by decide +kernel
theorem dX7_tenThousands_9 : decode cX7_tenThousands 9 = .ok (.lload_n 1, 1) := by decide +kernel
theorem dX7_tenThousands_10 : decode cX7_tenThousands 10 = .ok (.ldc2_w 237, 3) := by decide +kernel
theorem dX7_tenThousands_13 : decode cX7_tenThousands 13 = .ok (.lmul, 1) := by decide +kernel
theorem dX7_tenThousands_14 : decode cX7_tenThousands 14 = .ok (.lstore_n 1, 1) := by decide +kernel
theorem dX7_tenThousands_15 : decode cX7_tenThousands 15 = .ok (.iinc 3 1, 3) := by decide +kernel
theorem dX7_tenThousands_18 : decode cX7_tenThousands 18 = .ok (.goto (-14), 3) := by decide +kernel
theorem dX7_tenThousands_21 : decode cX7_tenThousands 21 = .ok (.lload_n 1, 1) := by decide +kernel
theorem dX7_tenThousands_22 : decode cX7_tenThousands 22 = .ok (.lreturn, 1) := by decide +kernel
theorem dX7_judge_0 : decode cX7_judge 0 = .ok (.iload_n 1, 1) := by decide +kernel
theorem dX7_judge_1 : decode cX7_judge 1 = .ok (.i2l, 1) := by decide +kernel
theorem dX7_judge_2 : decode cX7_judge 2 = .ok (.lconst 1, 1) := by decide +kernel
theorem dX7_judge_3 : decode cX7_judge 3 = .ok (.ldc2_w 239, 3) := by decide +kernel
theorem dX7_judge_6 : decode cX7_judge 6 = .ok (.invokestatic 78, 3) := by decide +kernel
theorem dX7_judge_9 : decode cX7_judge 9 = .ok (.ifCond .eq 17, 3) := by decide +kernel
theorem dX7_judge_12 : decode cX7_judge 12 = .ok (.lload_n 2, 1) := by decide +kernel
theorem dX7_judge_13 : decode cX7_judge 13 = .ok (.lconst 0, 1) := by decide +kernel
theorem dX7_judge_14 : decode cX7_judge 14 = .ok (.iload_n 1, 1) := by decide +kernel
theorem dX7_judge_15 : decode cX7_judge 15 = .ok (.invokestatic 241, 3) := by decide +kernel
theorem dX7_judge_18 : decode cX7_judge 18 = .ok (.lconst 1, 1) := by decide +kernel
theorem dX7_judge_19 : decode cX7_judge 19 = .ok (.lsub, 1) := by decide +kernel
theorem dX7_judge_20 : decode cX7_judge 20 = .ok (.invokestatic 78, 3) := by decide +kernel
theorem dX7_judge_23 : decode cX7_judge 23 = .ok (.ifCond .ne 6, 3) := by decide +kernel
theorem dX7_judge_26 : decode cX7_judge 26 = .ok (.bipush (-2), 2) := by decide +kernel
theorem dX7_judge_28 : decode cX7_judge 28 = .ok (.ireturn, 1) := by decide +kernel
theorem dX7_judge_29 : decode cX7_judge 29 = .ok (.aload_n 0, 1) := by decide +kernel
theorem dX7_judge_30 : decode cX7_judge 30 = .ok (.invokevirtual 228, 3) := by decide +kernel
theorem dX7_judge_33 : decode cX7_judge 33 = .ok (.iconst 0, 1) := by decide +kernel
theorem dX7_judge_34 : decode cX7_judge 34 = .ok (.istore 4, 2) := by decide +kernel
theorem dX7_judge_36 : decode cX7_judge 36 = .ok (.iload 4, 2) := by decide +kernel
theorem dX7_judge_38 : decode cX7_judge 38 = .ok (.iload_n 1, 1) := by decide +kernel
theorem dX7_judge_39 : decode cX7_judge 39 = .ok (.if_icmp .ge 64, 3) := by decide +kernel
theorem dX7_judge_42 : decode cX7_judge 42 = .ok (.lload_n 2, 1) := by decide +kernel
theorem dX7_judge_43 : decode cX7_judge 43 = .ok (.iload_n 1, 1) := by decide +kernel
theorem dX7_judge_44 : decode cX7_judge 44 = .ok (.iconst 1, 1) := by decide +kernel
theorem dX7_judge_45 : decode cX7_judge 45 = .ok (.isub, 1) := by decide +kernel
theorem dX7_judge_46 : decode cX7_judge 46 = .ok (.iload 4, 2) := by decide +kernel
theorem dX7_judge_48 : decode cX7_judge 48 = .ok (.isub, 1) := by decide +kernel
theorem dX7_judge_49 : decode cX7_judge 49 = .ok (.invokestatic 241, 3) := by decide +kernel
theorem dX7_judge_52 : decode cX7_judge 52 = .ok (.ldiv, 1) := by decide +kernel
theorem dX7_judge_53 : decode cX7_judge 53 = .ok (.ldc2_w 237, 3) := by decide +kernel
theorem dX7_judge_56 : decode cX7_judge 56 = .ok (.lrem, 1) := by decide +kernel
theorem dX7_judge_57 : decode cX7_judge 57 = .ok (.l2i, 1) := by decide +kernel
theorem dX7_judge_58 : decode cX7_judge 58 = .ok (.istore 5, 2) := by decide +kernel
theorem dX7_judge_60 : decode cX7_judge 60 = .ok (.aload_n 0, 1) := by decide +kernel
theorem dX7_judge_61 : decode cX7_judge 61 = .ok (.iload 5, 2) := by decide +kernel
theorem dX7_judge_63 : decode cX7_judge 63 = .ok (.sipush 1000, 3) := by decide +kernel
theorem dX7_judge_66 : decode cX7_judge 66 = .ok (.idiv, 1) := by decide +kernel
theorem dX7_judge_67 : decode cX7_judge 67 = .ok (.iload 5, 2) := by decide +kernel
theorem dX7_judge_69 : decode cX7_judge 69 = .ok (.bipush 100, 2) := by decide +kernel
theorem dX7_judge_71 : decode cX7_judge 71 = .ok (.idiv, 1) := by decide +kernel
theorem dX7_judge_72 : decode cX7_judge 72 = .ok (.bipush 10, 2) := by decide +kernel
theorem dX7_judge_74 : decode cX7_judge 74 = .ok (.irem, 1) := by decide +kernel
theorem dX7_judge_75 : decode cX7_judge 75 = .ok (.iload 5, 2) := by decide +kernel
theorem dX7_judge_77 : decode cX7_judge 77 = .ok (.bipush 10, 2) := by decide +kernel
theorem dX7_judge_79 : decode cX7_judge 79 = .ok (.idiv, 1) := by decide +kernel
theorem dX7_judge_80 : decode cX7_judge 80 = .ok (.bipush 10, 2) := by decide +kernel
theorem dX7_judge_82 : decode cX7_judge 82 = .ok (.irem, 1) := by decide +kernel
theorem dX7_judge_83 : decode cX7_judge 83 = .ok (.iload 5, 2) := by decide +kernel
theorem dX7_judge_85 : decode cX7_judge 85 = .ok (.bipush 10, 2) := by decide +kernel
theorem dX7_judge_87 : decode cX7_judge 87 = .ok (.irem, 1) := by decide +kernel
theorem dX7_judge_88 : decode cX7_judge 88 = .ok (.invokevirtual 245, 3) := by decide +kernel
theorem dX7_judge_91 : decode cX7_judge 91 = .ok (.ifCond .ne 6, 3) := by decide +kernel
theorem dX7_judge_94 : decode cX7_judge 94 = .ok (.iload 4, 2) := by decide +kernel
theorem dX7_judge_96 : decode cX7_judge 96 = .ok (.ireturn, 1) := by decide +kernel
theorem dX7_judge_97 : decode cX7_judge 97 = .ok (.iinc 4 1, 3) := by decide +kernel
theorem dX7_judge_100 : decode cX7_judge 100 = .ok (.goto (-64), 3) := by decide +kernel
theorem dX7_judge_103 : decode cX7_judge 103 = .ok (.bipush (-9), 2) := by decide +kernel
theorem dX7_judge_105 : decode cX7_judge 105 = .ok (.ireturn, 1) := by decide +kernel
theorem dX7_share_0 : decode cX7_share 0 = .ok (.aload_n 0, 1) := by decide +kernel
theorem dX7_share_1 : decode cX7_share 1 = .ok (.iload_n 1, 1) := by decide +kernel
theorem dX7_share_2 : decode cX7_share 2 = .ok (.invokevirtual 196, 3) := by decide +kernel
theorem dX7_share_5 : decode cX7_share 5 = .ok (.ifCond .ne 5, 3) := by decide +kernel
theorem dX7_share_8 : decode cX7_share 8 = .ok (.iconst (-1), 1) := by decide +kernel
theorem dX7_share_9 : decode cX7_share 9 = .ok (.ireturn, 1) := by decide +kernel
theorem dX7_share_10 : decode cX7_share 10 = .ok (.iconst 0, 1) := by decide +kernel
theorem dX7_share_11 : decode cX7_share 11 = .ok (.istore_n 3, 1) := by decide +kernel
theorem dX7_share_12 : decode cX7_share 12 = .ok (.iload_n 3, 1) := by decide +kernel
theorem dX7_share_13 : decode cX7_share 13 = .ok (.iconst 1, 1) := by decide +kernel
theorem dX7_share_14 : decode cX7_share 14 = .ok (.aload_n 0, 1) := by decide +kernel
theorem dX7_share_15 : decode cX7_share 15 = .ok (.getfield 101, 3) := by decide +kernel
theorem dX7_share_18 : decode cX7_share 18 = .ok (.ishl, 1) := by decide +kernel
theorem dX7_share_19 : decode cX7_share 19 = .ok (.if_icmp .ge 24, 3) := by decide +kernel
theorem dX7_share_22 : decode cX7_share 22 = .ok (.aload_n 0, 1) := by decide +kernel
theorem dX7_share_23 : decode cX7_share 23 = .ok (.getfield 59, 3) := by decide +kernel
theorem dX7_share_26 : decode cX7_share 26 = .ok (.iload_n 3, 1) := by decide +kernel
theorem dX7_share_27 : decode cX7_share 27 = .ok (.aload_n 0, 1) := by decide +kernel
theorem dX7_share_28 : decode cX7_share 28 = .ok (.aload_n 0, 1) := by decide +kernel
theorem dX7_share_29 : decode cX7_share 29 = .ok (.getfield 13, 3) := by decide +kernel
theorem dX7_share_32 : decode cX7_share 32 = .ok (.iload_n 3, 1) := by decide +kernel
theorem dX7_share_33 : decode cX7_share 33 = .ok (.invokevirtual 173, 3) := by decide +kernel
theorem dX7_share_36 : decode cX7_share 36 = .ok (.iastore, 1) := by decide +kernel
theorem dX7_share_37 : decode cX7_share 37 = .ok (.iinc 3 1, 3) := by decide +kernel
theorem dX7_share_40 : decode cX7_share 40 = .ok (.goto (-28), 3) := by decide +kernel
theorem dX7_share_43 : decode cX7_share 43 = .ok (.iconst 0, 1) := by decide +kernel
theorem dX7_share_44 : decode cX7_share 44 = .ok (.istore_n 3, 1) := by decide +kernel
theorem dX7_share_45 : decode cX7_share 45 = .ok (.iconst 0, 1) := by decide +kernel
theorem dX7_share_46 : decode cX7_share 46 = .ok (.istore 4, 2) := by decide +kernel
theorem dX7_share_48 : decode cX7_share 48 = .ok (.iload 4, 2) := by decide +kernel
theorem dX7_share_50 : decode cX7_share 50 = .ok (.iconst 1, 1) := by decide +kernel
theorem dX7_share_51 : decode cX7_share 51 = .ok (.iconst 2, 1) := by decide +kernel
theorem dX7_share_52 : decode cX7_share 52 = .ok (.aload_n 0, 1) := by decide +kernel
theorem dX7_share_53 : decode cX7_share 53 = .ok (.getfield 101, 3) := by decide +kernel
theorem dX7_share_56 : decode cX7_share 56 = .ok (.imul, 1) := by decide +kernel
theorem dX7_share_57 : decode cX7_share 57 = .ok (.ishl, 1) := by decide +kernel
theorem dX7_share_58 : decode cX7_share 58 = .ok (.if_icmp .ge 79, 3) := by decide +kernel
theorem dX7_share_61 : decode cX7_share 61 = .ok (.aload_n 0, 1) := by decide +kernel
theorem dX7_share_62 : decode cX7_share 62 = .ok (.iload 4, 2) := by decide +kernel
theorem dX7_share_64 : decode cX7_share 64 = .ok (.invokevirtual 231, 3) := by decide +kernel
theorem dX7_share_67 : decode cX7_share 67 = .ok (.ifCond .eq 64, 3) := by decide +kernel
theorem dX7_share_70 : decode cX7_share 70 = .ok (.iconst 0, 1) := by decide +kernel
theorem dX7_share_71 : decode cX7_share 71 = .ok (.istore 5, 2) := by decide +kernel
theorem dX7_share_73 : decode cX7_share 73 = .ok (.iconst 0, 1) := by decide +kernel
theorem dX7_share_74 : decode cX7_share 74 = .ok (.istore 6, 2) := by decide +kernel
theorem dX7_share_76 : decode cX7_share 76 = .ok (.aload_n 0, 1) := by decide +kernel
theorem dX7_share_77 : decode cX7_share 77 = .ok (.iload 4, 2) := by decide +kernel
theorem dX7_share_79 : decode cX7_share 79 = .ok (.iload 6, 2) := by decide +kernel
theorem dX7_share_81 : decode cX7_share 81 = .ok (.invokevirtual 223, 3) := by decide +kernel
theorem dX7_share_84 : decode cX7_share 84 = .ok (.iload_n 1, 1) := by decide +kernel
theorem dX7_share_85 : decode cX7_share 85 = .ok (.if_icmp .eq 24, 3) := by decide +kernel
theorem dX7_share_88 : decode cX7_share 88 = .ok (.iload 5, 2) := by decide +kernel
theorem dX7_share_90 : decode cX7_share 90 = .ok (.iconst 1, 1) := by decide +kernel
theorem dX7_share_91 : decode cX7_share 91 = .ok (.aload_n 0, 1) := by decide +kernel
theorem dX7_share_92 : decode cX7_share 92 = .ok (.iload 4, 2) := by decide +kernel
theorem dX7_share_94 : decode cX7_share 94 = .ok (.iload 6, 2) := by decide +kernel
theorem dX7_share_96 : decode cX7_share 96 = .ok (.invokevirtual 223, 3) := by decide +kernel
theorem dX7_share_99 : decode cX7_share 99 = .ok (.ishl, 1) := by decide +kernel
theorem dX7_share_100 : decode cX7_share 100 = .ok (.ior, 1) := by decide +kernel
theorem dX7_share_101 : decode cX7_share 101 = .ok (.istore 5, 2) := by decide +kernel
theorem dX7_share_103 : decode cX7_share 103 = .ok (.iinc 6 1, 3) := by decide +kernel
theorem dX7_share_106 : decode cX7_share 106 = .ok (.goto (-30), 3) := by decide +kernel
theorem dX7_share_109 : decode cX7_share 109 = .ok (.iload_n 3, 1) := by decide +kernel
theorem dX7_share_110 : decode cX7_share 110 = .ok (.aload_n 0, 1) := by decide +kernel
theorem dX7_share_111 : decode cX7_share 111 = .ok (.getfield 59, 3) := by decide +kernel
theorem dX7_share_114 : decode cX7_share 114 = .ok (.iload 5, 2) := by decide +kernel
theorem dX7_share_116 : decode cX7_share 116 = .ok (.iconst 1, 1) := by decide +kernel
theorem dX7_share_117 : decode cX7_share 117 = .ok (.iload_n 1, 1) := by decide +kernel
theorem dX7_share_118 : decode cX7_share 118 = .ok (.ishl, 1) := by decide +kernel
theorem dX7_share_119 : decode cX7_share 119 = .ok (.ior, 1) := by decide +kernel
theorem dX7_share_120 : decode cX7_share 120 = .ok (.iaload, 1) := by decide +kernel
theorem dX7_share_121 : decode cX7_share 121 = .ok (.aload_n 0, 1) := by decide +kernel
theorem dX7_share_122 : decode cX7_share 122 = .ok (.getfield 59, 3) := by decide +kernel
theorem dX7_share_125 : decode cX7_share 125 = .ok (.iload 5, 2) := by decide +kernel
theorem dX7_share_127 : decode cX7_share 127 = .ok (.iaload, 1) := by decide +kernel
theorem dX7_share_128 : decode cX7_share 128 = .ok (.isub, 1) := by decide +kernel
theorem dX7_share_129 : decode cX7_share 129 = .ok (.iadd, 1) := by decide +kernel
theorem dX7_share_130 : decode cX7_share 130 = .ok (.istore_n 3, 1) := by decide +kernel
theorem dX7_share_131 : decode cX7_share 131 = .ok (.iinc 4 1, 3) := by decide +kernel
theorem dX7_share_134 : decode cX7_share 134 = .ok (.goto (-86), 3) := by decide +kernel
theorem dX7_share_137 : decode cX7_share 137 = .ok (.iload_n 3, 1) := by decide +kernel
theorem dX7_share_138 : decode cX7_share 138 = .ok (.aload_n 0, 1) := by decide +kernel
theorem dX7_share_139 : decode cX7_share 139 = .ok (.getfield 101, 3) := by decide +kernel
theorem dX7_share_142 : decode cX7_share 142 = .ok (.invokestatic 249, 3) := by decide +kernel
theorem dX7_share_145 : decode cX7_share 145 = .ok (.iload_n 2, 1) := by decide +kernel
theorem dX7_share_146 : decode cX7_share 146 = .ok (.invokestatic 252, 3) := by decide +kernel
theorem dX7_share_149 : decode cX7_share 149 = .ok (.ireturn, 1) := by decide +kernel
theorem dX7_see_0 : decode cX7_see 0 = .ok (.aload_n 0, 1) := by decide +kernel
theorem dX7_see_1 : decode cX7_see 1 = .ok (.iload_n 1, 1) := by decide +kernel
theorem dX7_see_2 : decode cX7_see 2 = .ok (.invokevirtual 193, 3) := by decide +kernel
theorem dX7_see_5 : decode cX7_see 5 = .ok (.ifCond .ne 5, 3) := by decide +kernel
theorem dX7_see_8 : decode cX7_see 8 = .ok (.iconst (-1), 1) := by decide +kernel
theorem dX7_see_9 : decode cX7_see 9 = .ok (.ireturn, 1) := by decide +kernel
theorem dX7_see_10 : decode cX7_see 10 = .ok (.iload_n 2, 1) := by decide +kernel
theorem dX7_see_11 : decode cX7_see 11 = .ok (.i2l, 1) := by decide +kernel
theorem dX7_see_12 : decode cX7_see 12 = .ok (.lconst 0, 1) := by decide +kernel
theorem dX7_see_13 : decode cX7_see 13 = .ok (.ldc2_w 239, 3) := by decide +kernel
theorem dX7_see_16 : decode cX7_see 16 = .ok (.invokestatic 78, 3) := by decide +kernel
theorem dX7_see_19 : decode cX7_see 19 = .ok (.ifCond .eq 26, 3) := by decide +kernel
theorem dX7_see_22 : decode cX7_see 22 = .ok (.iload_n 3, 1) := by decide +kernel
theorem dX7_see_23 : decode cX7_see 23 = .ok (.i2l, 1) := by decide +kernel
theorem dX7_see_24 : decode cX7_see 24 = .ok (.lconst 1, 1) := by decide +kernel
theorem dX7_see_25 : decode cX7_see 25 = .ok (.ldc2_w 82, 3) := by decide +kernel
theorem dX7_see_28 : decode cX7_see 28 = .ok (.invokestatic 78, 3) := by decide +kernel
theorem dX7_see_31 : decode cX7_see 31 = .ok (.ifCond .eq 14, 3) := by decide +kernel
theorem dX7_see_34 : decode cX7_see 34 = .ok (.iload 4, 2) := by decide +kernel
theorem dX7_see_36 : decode cX7_see 36 = .ok (.i2l, 1) := by decide +kernel
theorem dX7_see_37 : decode cX7_see 37 = .ok (.lconst 0, 1) := by decide +kernel
theorem dX7_see_38 : decode cX7_see 38 = .ok (.lconst 1, 1) := by decide +kernel
theorem dX7_see_39 : decode cX7_see 39 = .ok (.invokestatic 78, 3) := by decide +kernel
theorem dX7_see_42 : decode cX7_see 42 = .ok (.ifCond .ne 6, 3) := by decide +kernel
theorem dX7_see_45 : decode cX7_see 45 = .ok (.bipush (-2), 2) := by decide +kernel
theorem dX7_see_47 : decode cX7_see 47 = .ok (.ireturn, 1) := by decide +kernel
theorem dX7_see_48 : decode cX7_see 48 = .ok (.aload_n 0, 1) := by decide +kernel
theorem dX7_see_49 : decode cX7_see 49 = .ok (.getfield 187, 3) := by decide +kernel
theorem dX7_see_52 : decode cX7_see 52 = .ok (.bipush 6, 2) := by decide +kernel
theorem dX7_see_54 : decode cX7_see 54 = .ok (.if_icmp .ne 6, 3) := by decide +kernel
theorem dX7_see_57 : decode cX7_see 57 = .ok (.bipush (-4), 2) := by decide +kernel
theorem dX7_see_59 : decode cX7_see 59 = .ok (.ireturn, 1) := by decide +kernel
theorem dX7_see_60 : decode cX7_see 60 = .ok (.aload_n 0, 1) := by decide +kernel
theorem dX7_see_61 : decode cX7_see 61 = .ok (.getfield 44, 3) := by decide +kernel
theorem dX7_see_64 : decode cX7_see 64 = .ok (.aload_n 0, 1) := by decide +kernel
theorem dX7_see_65 : decode cX7_see 65 = .ok (.getfield 187, 3) := by decide +kernel
theorem dX7_see_68 : decode cX7_see 68 = .ok (.iload_n 1, 1) := by decide +kernel
theorem dX7_see_69 : decode cX7_see 69 = .ok (.iastore, 1) := by decide +kernel
theorem dX7_see_70 : decode cX7_see 70 = .ok (.aload_n 0, 1) := by decide +kernel
theorem dX7_see_71 : decode cX7_see 71 = .ok (.getfield 47, 3) := by decide +kernel
theorem dX7_see_74 : decode cX7_see 74 = .ok (.aload_n 0, 1) := by decide +kernel
theorem dX7_see_75 : decode cX7_see 75 = .ok (.getfield 187, 3) := by decide +kernel
theorem dX7_see_78 : decode cX7_see 78 = .ok (.iload_n 2, 1) := by decide +kernel
theorem dX7_see_79 : decode cX7_see 79 = .ok (.iastore, 1) := by decide +kernel
theorem dX7_see_80 : decode cX7_see 80 = .ok (.aload_n 0, 1) := by decide +kernel
theorem dX7_see_81 : decode cX7_see 81 = .ok (.getfield 50, 3) := by decide +kernel
theorem dX7_see_84 : decode cX7_see 84 = .ok (.aload_n 0, 1) := by decide +kernel
theorem dX7_see_85 : decode cX7_see 85 = .ok (.getfield 187, 3) := by decide +kernel
theorem dX7_see_88 : decode cX7_see 88 = .ok (.iload_n 3, 1) := by decide +kernel
theorem dX7_see_89 : decode cX7_see 89 = .ok (.iastore, 1) := by decide +kernel
theorem dX7_see_90 : decode cX7_see 90 = .ok (.aload_n 0, 1) := by decide +kernel
theorem dX7_see_91 : decode cX7_see 91 = .ok (.getfield 53, 3) := by decide +kernel
theorem dX7_see_94 : decode cX7_see 94 = .ok (.aload_n 0, 1) := by decide +kernel
theorem dX7_see_95 : decode cX7_see 95 = .ok (.getfield 187, 3) := by decide +kernel
theorem dX7_see_98 : decode cX7_see 98 = .ok (.iload 4, 2) := by decide +kernel
theorem dX7_see_100 : decode cX7_see 100 = .ok (.iastore, 1) := by decide +kernel
theorem dX7_see_101 : decode cX7_see 101 = .ok (.aload_n 0, 1) := by decide +kernel
theorem dX7_see_102 : decode cX7_see 102 = .ok (.dup, 1) := by decide +kernel
theorem dX7_see_103 : decode cX7_see 103 = .ok (.getfield 187, 3) := by decide +kernel
theorem dX7_see_106 : decode cX7_see 106 = .ok (.iconst 1, 1) := by decide +kernel
theorem dX7_see_107 : decode cX7_see 107 = .ok (.iadd, 1) := by decide +kernel
theorem dX7_see_108 : decode cX7_see 108 = .ok (.putfield 187, 3) := by decide +kernel
theorem dX7_see_111 : decode cX7_see 111 = .ok (.aload_n 0, 1) := by decide +kernel
theorem dX7_see_112 : decode cX7_see 112 = .ok (.getfield 187, 3) := by decide +kernel
theorem dX7_see_115 : decode cX7_see 115 = .ok (.ireturn, 1) := by decide +kernel
theorem dX7_unsee_0 : decode cX7_unsee 0 = .ok (.aload_n 0, 1) := by decide +kernel
theorem dX7_unsee_1 : decode cX7_unsee 1 = .ok (.getfield 187, 3) := by decide +kernel
theorem dX7_unsee_4 : decode cX7_unsee 4 = .ok (.istore_n 1, 1) := by decide +kernel
theorem dX7_unsee_5 : decode cX7_unsee 5 = .ok (.aload_n 0, 1) := by decide +kernel
theorem dX7_unsee_6 : decode cX7_unsee 6 = .ok (.iconst 0, 1) := by decide +kernel
theorem dX7_unsee_7 : decode cX7_unsee 7 = .ok (.putfield 187, 3) := by decide +kernel
theorem dX7_unsee_10 : decode cX7_unsee 10 = .ok (.iload_n 1, 1) := by decide +kernel
theorem dX7_unsee_11 : decode cX7_unsee 11 = .ok (.ireturn, 1) := by decide +kernel
theorem dX7_agrees_0 : decode cX7_agrees 0 = .ok (.iconst 1, 1) := by decide +kernel
theorem dX7_agrees_1 : decode cX7_agrees 1 = .ok (.istore_n 2, 1) := by decide +kernel
theorem dX7_agrees_2 : decode cX7_agrees 2 = .ok (.iconst 0, 1) := by decide +kernel
theorem dX7_agrees_3 : decode cX7_agrees 3 = .ok (.istore_n 3, 1) := by decide +kernel
theorem dX7_agrees_4 : decode cX7_agrees 4 = .ok (.iload_n 3, 1) := by decide +kernel
theorem dX7_agrees_5 : decode cX7_agrees 5 = .ok (.aload_n 0, 1) := by decide +kernel
theorem dX7_agrees_6 : decode cX7_agrees 6 = .ok (.getfield 187, 3) := by decide +kernel
theorem dX7_agrees_9 : decode cX7_agrees 9 = .ok (.if_icmp .ge 113, 3) := by decide +kernel
theorem dX7_agrees_12 : decode cX7_agrees 12 = .ok (.aload_n 0, 1) := by decide +kernel
theorem dX7_agrees_13 : decode cX7_agrees 13 = .ok (.getfield 44, 3) := by decide +kernel
theorem dX7_agrees_16 : decode cX7_agrees 16 = .ok (.iload_n 3, 1) := by decide +kernel
theorem dX7_agrees_17 : decode cX7_agrees 17 = .ok (.iaload, 1) := by decide +kernel
theorem dX7_agrees_18 : decode cX7_agrees 18 = .ok (.istore 4, 2) := by decide +kernel
theorem dX7_agrees_20 : decode cX7_agrees 20 = .ok (.aload_n 0, 1) := by decide +kernel
theorem dX7_agrees_21 : decode cX7_agrees 21 = .ok (.iload 4, 2) := by decide +kernel
theorem dX7_agrees_23 : decode cX7_agrees 23 = .ok (.invokevirtual 193, 3) := by decide +kernel
theorem dX7_agrees_26 : decode cX7_agrees 26 = .ok (.ifCond .eq 30, 3) := by decide +kernel
theorem dX7_agrees_29 : decode cX7_agrees 29 = .ok (.aload_n 0, 1) := by decide +kernel
theorem dX7_agrees_30 : decode cX7_agrees 30 = .ok (.getfield 13, 3) := by decide +kernel
theorem dX7_agrees_33 : decode cX7_agrees 33 = .ok (.iload_n 1, 1) := by decide +kernel
theorem dX7_agrees_34 : decode cX7_agrees 34 = .ok (.aload_n 0, 1) := by decide +kernel
theorem dX7_agrees_35 : decode cX7_agrees 35 = .ok (.getfield 32, 3) := by decide +kernel
theorem dX7_agrees_38 : decode cX7_agrees 38 = .ok (.iload 4, 2) := by decide +kernel
theorem dX7_agrees_40 : decode cX7_agrees 40 = .ok (.iaload, 1) := by decide +kernel
theorem dX7_agrees_41 : decode cX7_agrees 41 = .ok (.invokestatic 95, 3) := by decide +kernel
theorem dX7_agrees_44 : decode cX7_agrees 44 = .ok (.aload_n 0, 1) := by decide +kernel
theorem dX7_agrees_45 : decode cX7_agrees 45 = .ok (.getfield 101, 3) := by decide +kernel
theorem dX7_agrees_48 : decode cX7_agrees 48 = .ok (.bipush 15, 2) := by decide +kernel
theorem dX7_agrees_50 : decode cX7_agrees 50 = .ok (.invokestatic 105, 3) := by decide +kernel
theorem dX7_agrees_53 : decode cX7_agrees 53 = .ok (.goto 4, 3) := by decide +kernel
theorem dX7_agrees_56 : decode cX7_agrees 56 = .ok (.iconst 0, 1) := by decide +kernel
theorem dX7_agrees_57 : decode cX7_agrees 57 = .ok (.istore 5, 2) := by decide +kernel
theorem dX7_agrees_59 : decode cX7_agrees 59 = .ok (.iload 5, 2) := by decide +kernel
theorem dX7_agrees_61 : decode cX7_agrees 61 = .ok (.aload_n 0, 1) := by decide +kernel
theorem dX7_agrees_62 : decode cX7_agrees 62 = .ok (.getfield 47, 3) := by decide +kernel
theorem dX7_agrees_65 : decode cX7_agrees 65 = .ok (.iload_n 3, 1) := by decide +kernel
theorem dX7_agrees_66 : decode cX7_agrees 66 = .ok (.iaload, 1) := by decide +kernel
theorem dX7_agrees_67 : decode cX7_agrees 67 = .ok (.invokestatic 256, 3) := by decide +kernel
theorem dX7_agrees_70 : decode cX7_agrees 70 = .ok (.aload_n 0, 1) := by decide +kernel
theorem dX7_agrees_71 : decode cX7_agrees 71 = .ok (.getfield 50, 3) := by decide +kernel
theorem dX7_agrees_74 : decode cX7_agrees 74 = .ok (.iload_n 3, 1) := by decide +kernel
theorem dX7_agrees_75 : decode cX7_agrees 75 = .ok (.iaload, 1) := by decide +kernel
theorem dX7_agrees_76 : decode cX7_agrees 76 = .ok (.if_icmp .ne 7, 3) := by decide +kernel
theorem dX7_agrees_79 : decode cX7_agrees 79 = .ok (.iconst 1, 1) := by decide +kernel
theorem dX7_agrees_80 : decode cX7_agrees 80 = .ok (.goto 4, 3) := by decide +kernel
theorem dX7_agrees_83 : decode cX7_agrees 83 = .ok (.iconst 0, 1) := by decide +kernel
theorem dX7_agrees_84 : decode cX7_agrees 84 = .ok (.istore 6, 2) := by decide +kernel
theorem dX7_agrees_86 : decode cX7_agrees 86 = .ok (.iload_n 2, 1) := by decide +kernel
theorem dX7_agrees_87 : decode cX7_agrees 87 = .ok (.ifCond .eq 27, 3) := by decide +kernel
theorem dX7_agrees_90 : decode cX7_agrees 90 = .ok (.iload 6, 2) := by decide +kernel
theorem dX7_agrees_92 : decode cX7_agrees 92 = .ok (.aload_n 0, 1) := by decide +kernel
theorem dX7_agrees_93 : decode cX7_agrees 93 = .ok (.getfield 53, 3) := by decide +kernel
theorem dX7_agrees_96 : decode cX7_agrees 96 = .ok (.iload_n 3, 1) := by decide +kernel
theorem dX7_agrees_97 : decode cX7_agrees 97 = .ok (.iaload, 1) := by decide +kernel
theorem dX7_agrees_98 : decode cX7_agrees 98 = .ok (.iconst 1, 1) := by decide +kernel
theorem dX7_agrees_99 : decode cX7_agrees 99 = .ok (.if_icmp .ne 7, 3) := by decide +kernel
theorem dX7_agrees_102 : decode cX7_agrees 102 = .ok (.iconst 1, 1) := by decide +kernel
theorem dX7_agrees_103 : decode cX7_agrees 103 = .ok (.goto 4, 3) := by decide +kernel
theorem dX7_agrees_106 : decode cX7_agrees 106 = .ok (.iconst 0, 1) := by decide +kernel
theorem dX7_agrees_107 : decode cX7_agrees 107 = .ok (.if_icmp .ne 7, 3) := by decide +kernel
theorem dX7_agrees_110 : decode cX7_agrees 110 = .ok (.iconst 1, 1) := by decide +kernel
theorem dX7_agrees_111 : decode cX7_agrees 111 = .ok (.goto 4, 3) := by decide +kernel
theorem dX7_agrees_114 : decode cX7_agrees 114 = .ok (.iconst 0, 1) := by decide +kernel
theorem dX7_agrees_115 : decode cX7_agrees 115 = .ok (.istore_n 2, 1) := by decide +kernel
theorem dX7_agrees_116 : decode cX7_agrees 116 = .ok (.iinc 3 1, 3) := by decide +kernel
theorem dX7_agrees_119 : decode cX7_agrees 119 = .ok (.goto (-115), 3) := by decide +kernel
theorem dX7_agrees_122 : decode cX7_agrees 122 = .ok (.iload_n 2, 1) := by decide +kernel
theorem dX7_agrees_123 : decode cX7_agrees 123 = .ok (.ireturn, 1) := by decide +kernel
theorem dX7_which_0 : decode cX7_which 0 = .ok (.iload_n 1, 1) := by decide +kernel
theorem dX7_which_1 : decode cX7_which 1 = .ok (.i2l, 1) := by decide +kernel
theorem dX7_which_2 : decode cX7_which 2 = .ok (.lconst 0, 1) := by decide +kernel
theorem dX7_which_3 : decode cX7_which 3 = .ok (.lconst 1, 1) := by decide +kernel
theorem dX7_which_4 : decode cX7_which 4 = .ok (.invokestatic 78, 3) := by decide +kernel
theorem dX7_which_7 : decode cX7_which 7 = .ok (.ifCond .ne 6, 3) := by decide +kernel
theorem dX7_which_10 : decode cX7_which 10 = .ok (.bipush (-2), 2) := by decide +kernel
theorem dX7_which_12 : decode cX7_which 12 = .ok (.ireturn, 1) := by decide +kernel
theorem dX7_which_13 : decode cX7_which 13 = .ok (.iconst 0, 1) := by decide +kernel
theorem dX7_which_14 : decode cX7_which 14 = .ok (.istore_n 2, 1) := by decide +kernel
theorem dX7_which_15 : decode cX7_which 15 = .ok (.bipush (-9), 2) := by decide +kernel
theorem dX7_which_17 : decode cX7_which 17 = .ok (.istore_n 3, 1) := by decide +kernel
theorem dX7_which_18 : decode cX7_which 18 = .ok (.bipush 124, 2) := by decide +kernel
theorem dX7_which_20 : decode cX7_which 20 = .ok (.istore 4, 2) := by decide +kernel
theorem dX7_which_22 : decode cX7_which 22 = .ok (.iload 4, 2) := by decide +kernel
theorem dX7_which_24 : decode cX7_which 24 = .ok (.ifCond .lt 55, 3) := by decide +kernel
theorem dX7_which_27 : decode cX7_which 27 = .ok (.bipush 100, 2) := by decide +kernel
theorem dX7_which_29 : decode cX7_which 29 = .ok (.iload 4, 2) := by decide +kernel
theorem dX7_which_31 : decode cX7_which 31 = .ok (.bipush 25, 2) := by decide +kernel
theorem dX7_which_33 : decode cX7_which 33 = .ok (.idiv, 1) := by decide +kernel
theorem dX7_which_34 : decode cX7_which 34 = .ok (.iconst 1, 1) := by decide +kernel
theorem dX7_which_35 : decode cX7_which 35 = .ok (.iadd, 1) := by decide +kernel
theorem dX7_which_36 : decode cX7_which 36 = .ok (.imul, 1) := by decide +kernel
theorem dX7_which_37 : decode cX7_which 37 = .ok (.bipush 10, 2) := by decide +kernel
theorem dX7_which_39 : decode cX7_which 39 = .ok (.iload 4, 2) := by decide +kernel
theorem dX7_which_41 : decode cX7_which 41 = .ok (.iconst 5, 1) := by decide +kernel
theorem dX7_which_42 : decode cX7_which 42 = .ok (.idiv, 1) := by decide +kernel
theorem dX7_which_43 : decode cX7_which 43 = .ok (.iconst 5, 1) := by decide +kernel
theorem dX7_which_44 : decode cX7_which 44 = .ok (.irem, 1) := by decide +kernel
theorem dX7_which_45 : decode cX7_which 45 = .ok (.iconst 1, 1) := by decide +kernel
theorem dX7_which_46 : decode cX7_which 46 = .ok (.iadd, 1) := by decide +kernel
theorem dX7_which_47 : decode cX7_which 47 = .ok (.imul, 1) := by decide +kernel
theorem dX7_which_48 : decode cX7_which 48 = .ok (.iadd, 1) := by decide +kernel
theorem dX7_which_49 : decode cX7_which 49 = .ok (.iload 4, 2) := by decide +kernel
theorem dX7_which_51 : decode cX7_which 51 = .ok (.iconst 5, 1) := by decide +kernel
theorem dX7_which_52 : decode cX7_which 52 = .ok (.irem, 1) := by decide +kernel
theorem dX7_which_53 : decode cX7_which 53 = .ok (.iadd, 1) := by decide +kernel
theorem dX7_which_54 : decode cX7_which 54 = .ok (.iconst 1, 1) := by decide +kernel
theorem dX7_which_55 : decode cX7_which 55 = .ok (.iadd, 1) := by decide +kernel
theorem dX7_which_56 : decode cX7_which 56 = .ok (.istore 5, 2) := by decide +kernel
theorem dX7_which_58 : decode cX7_which 58 = .ok (.aload_n 0, 1) := by decide +kernel
theorem dX7_which_59 : decode cX7_which 59 = .ok (.iload 5, 2) := by decide +kernel
theorem dX7_which_61 : decode cX7_which 61 = .ok (.invokevirtual 259, 3) := by decide +kernel
theorem dX7_which_64 : decode cX7_which 64 = .ok (.ifCond .eq 9, 3) := by decide +kernel
theorem dX7_which_67 : decode cX7_which 67 = .ok (.iinc 2 1, 3) := by decide +kernel
theorem dX7_which_70 : decode cX7_which 70 = .ok (.iload 5, 2) := by decide +kernel
theorem dX7_which_72 : decode cX7_which 72 = .ok (.istore_n 3, 1) := by decide +kernel
theorem dX7_which_73 : decode cX7_which 73 = .ok (.iinc 4 (-1), 3) := by decide +kernel
theorem dX7_which_76 : decode cX7_which 76 = .ok (.goto (-54), 3) := by decide +kernel
theorem dX7_which_79 : decode cX7_which 79 = .ok (.iload_n 1, 1) := by decide +kernel
theorem dX7_which_80 : decode cX7_which 80 = .ok (.ifCond .ne 7, 3) := by decide +kernel
theorem dX7_which_83 : decode cX7_which 83 = .ok (.iload_n 2, 1) := by decide +kernel
theorem dX7_which_84 : decode cX7_which 84 = .ok (.goto 4, 3) := by decide +kernel
theorem dX7_which_87 : decode cX7_which 87 = .ok (.iload_n 3, 1) := by decide +kernel
theorem dX7_which_88 : decode cX7_which 88 = .ok (.ireturn, 1) := by decide +kernel
theorem dX7_fails_0 : decode cX7_fails 0 = .ok (.aload_n 0, 1) := by decide +kernel
theorem dX7_fails_1 : decode cX7_fails 1 = .ok (.iload_n 1, 1) := by decide +kernel
theorem dX7_fails_2 : decode cX7_fails 2 = .ok (.invokevirtual 190, 3) := by decide +kernel
theorem dX7_fails_5 : decode cX7_fails 5 = .ok (.ifCond .eq 11, 3) := by decide +kernel
theorem dX7_fails_8 : decode cX7_fails 8 = .ok (.aload_n 0, 1) := by decide +kernel
theorem dX7_fails_9 : decode cX7_fails 9 = .ok (.iload_n 2, 1) := by decide +kernel
theorem dX7_fails_10 : decode cX7_fails 10 = .ok (.invokevirtual 193, 3) := by decide +kernel
theorem dX7_fails_13 : decode cX7_fails 13 = .ok (.ifCond .ne 5, 3) := by decide +kernel
theorem dX7_fails_16 : decode cX7_fails 16 = .ok (.iconst (-1), 1) := by decide +kernel
theorem dX7_fails_17 : decode cX7_fails 17 = .ok (.ireturn, 1) := by decide +kernel
theorem dX7_fails_18 : decode cX7_fails 18 = .ok (.iload_n 3, 1) := by decide +kernel
theorem dX7_fails_19 : decode cX7_fails 19 = .ok (.i2l, 1) := by decide +kernel
theorem dX7_fails_20 : decode cX7_fails 20 = .ok (.lconst 0, 1) := by decide +kernel
theorem dX7_fails_21 : decode cX7_fails 21 = .ok (.ldc2_w 262, 3) := by decide +kernel
theorem dX7_fails_24 : decode cX7_fails 24 = .ok (.invokestatic 78, 3) := by decide +kernel
theorem dX7_fails_27 : decode cX7_fails 27 = .ok (.ifCond .ne 6, 3) := by decide +kernel
theorem dX7_fails_30 : decode cX7_fails 30 = .ok (.bipush (-2), 2) := by decide +kernel
theorem dX7_fails_32 : decode cX7_fails 32 = .ok (.ireturn, 1) := by decide +kernel
theorem dX7_fails_33 : decode cX7_fails 33 = .ok (.aload_n 0, 1) := by decide +kernel
theorem dX7_fails_34 : decode cX7_fails 34 = .ok (.aload_n 0, 1) := by decide +kernel
theorem dX7_fails_35 : decode cX7_fails 35 = .ok (.getfield 13, 3) := by decide +kernel
theorem dX7_fails_38 : decode cX7_fails 38 = .ok (.iload_n 1, 1) := by decide +kernel
theorem dX7_fails_39 : decode cX7_fails 39 = .ok (.iload_n 2, 1) := by decide +kernel
theorem dX7_fails_40 : decode cX7_fails 40 = .ok (.bipush 15, 2) := by decide +kernel
theorem dX7_fails_42 : decode cX7_fails 42 = .ok (.invokevirtual 170, 3) := by decide +kernel
theorem dX7_fails_45 : decode cX7_fails 45 = .ok (.istore 5, 2) := by decide +kernel
theorem dX7_fails_47 : decode cX7_fails 47 = .ok (.iconst 0, 1) := by decide +kernel
theorem dX7_fails_48 : decode cX7_fails 48 = .ok (.istore 6, 2) := by decide +kernel
theorem dX7_fails_50 : decode cX7_fails 50 = .ok (.iconst 0, 1) := by decide +kernel
theorem dX7_fails_51 : decode cX7_fails 51 = .ok (.istore 7, 2) := by decide +kernel
theorem dX7_fails_53 : decode cX7_fails 53 = .ok (.iload 7, 2) := by decide +kernel
theorem dX7_fails_55 : decode cX7_fails 55 = .ok (.iconst 1, 1) := by decide +kernel
theorem dX7_fails_56 : decode cX7_fails 56 = .ok (.aload_n 0, 1) := by decide +kernel
theorem dX7_fails_57 : decode cX7_fails 57 = .ok (.getfield 101, 3) := by decide +kernel
theorem dX7_fails_60 : decode cX7_fails 60 = .ok (.ishl, 1) := by decide +kernel
theorem dX7_fails_61 : decode cX7_fails 61 = .ok (.if_icmp .ge 75, 3) := by decide +kernel
theorem dX7_fails_64 : decode cX7_fails 64 = .ok (.iload 7, 2) := by decide +kernel
theorem dX7_fails_66 : decode cX7_fails 66 = .ok (.invokestatic 264, 3) := by decide +kernel
theorem dX7_fails_69 : decode cX7_fails 69 = .ok (.istore 8, 2) := by decide +kernel
theorem dX7_fails_71 : decode cX7_fails 71 = .ok (.aload_n 0, 1) := by decide +kernel
theorem dX7_fails_72 : decode cX7_fails 72 = .ok (.aload_n 0, 1) := by decide +kernel
theorem dX7_fails_73 : decode cX7_fails 73 = .ok (.getfield 13, 3) := by decide +kernel
theorem dX7_fails_76 : decode cX7_fails 76 = .ok (.iload_n 1, 1) := by decide +kernel
theorem dX7_fails_77 : decode cX7_fails 77 = .ok (.iload_n 2, 1) := by decide +kernel
theorem dX7_fails_78 : decode cX7_fails 78 = .ok (.iload 7, 2) := by decide +kernel
theorem dX7_fails_80 : decode cX7_fails 80 = .ok (.invokevirtual 170, 3) := by decide +kernel
theorem dX7_fails_83 : decode cX7_fails 83 = .ok (.iload 5, 2) := by decide +kernel
theorem dX7_fails_85 : decode cX7_fails 85 = .ok (.if_icmp .ne 7, 3) := by decide +kernel
theorem dX7_fails_88 : decode cX7_fails 88 = .ok (.iconst 1, 1) := by decide +kernel
theorem dX7_fails_89 : decode cX7_fails 89 = .ok (.goto 4, 3) := by decide +kernel
theorem dX7_fails_92 : decode cX7_fails 92 = .ok (.iconst 0, 1) := by decide +kernel
theorem dX7_fails_93 : decode cX7_fails 93 = .ok (.istore 9, 2) := by decide +kernel
theorem dX7_fails_95 : decode cX7_fails 95 = .ok (.iload 6, 2) := by decide +kernel
theorem dX7_fails_97 : decode cX7_fails 97 = .ok (.iload 9, 2) := by decide +kernel
theorem dX7_fails_99 : decode cX7_fails 99 = .ok (.ifCond .eq 27, 3) := by decide +kernel
theorem dX7_fails_102 : decode cX7_fails 102 = .ok (.bipush 10, 2) := by decide +kernel
theorem dX7_fails_104 : decode cX7_fails 104 = .ok (.iload_n 3, 1) := by decide +kernel
theorem dX7_fails_105 : decode cX7_fails 105 = .ok (.isub, 1) := by decide +kernel
theorem dX7_fails_106 : decode cX7_fails 106 = .ok (.iload 8, 2) := by decide +kernel
theorem dX7_fails_108 : decode cX7_fails 108 = .ok (.invokestatic 73, 3) := by decide +kernel
theorem dX7_fails_111 : decode cX7_fails 111 = .ok (.iload_n 3, 1) := by decide +kernel
theorem dX7_fails_112 : decode cX7_fails 112 = .ok (.aload_n 0, 1) := by decide +kernel
theorem dX7_fails_113 : decode cX7_fails 113 = .ok (.getfield 101, 3) := by decide +kernel
theorem dX7_fails_116 : decode cX7_fails 116 = .ok (.iload 8, 2) := by decide +kernel
theorem dX7_fails_118 : decode cX7_fails 118 = .ok (.isub, 1) := by decide +kernel
theorem dX7_fails_119 : decode cX7_fails 119 = .ok (.invokestatic 73, 3) := by decide +kernel
theorem dX7_fails_122 : decode cX7_fails 122 = .ok (.imul, 1) := by decide +kernel
theorem dX7_fails_123 : decode cX7_fails 123 = .ok (.goto 4, 3) := by decide +kernel
theorem dX7_fails_126 : decode cX7_fails 126 = .ok (.iconst 0, 1) := by decide +kernel
theorem dX7_fails_127 : decode cX7_fails 127 = .ok (.iadd, 1) := by decide +kernel
theorem dX7_fails_128 : decode cX7_fails 128 = .ok (.istore 6, 2) := by decide +kernel
theorem dX7_fails_130 : decode cX7_fails 130 = .ok (.iinc 7 1, 3) := by decide +kernel
theorem dX7_fails_133 : decode cX7_fails 133 = .ok (.goto (-80), 3) := by decide +kernel
theorem dX7_fails_136 : decode cX7_fails 136 = .ok (.iload 6, 2) := by decide +kernel
theorem dX7_fails_138 : decode cX7_fails 138 = .ok (.bipush 10, 2) := by decide +kernel
theorem dX7_fails_140 : decode cX7_fails 140 = .ok (.aload_n 0, 1) := by decide +kernel
theorem dX7_fails_141 : decode cX7_fails 141 = .ok (.getfield 101, 3) := by decide +kernel
theorem dX7_fails_144 : decode cX7_fails 144 = .ok (.invokestatic 73, 3) := by decide +kernel
theorem dX7_fails_147 : decode cX7_fails 147 = .ok (.iload 4, 2) := by decide +kernel
theorem dX7_fails_149 : decode cX7_fails 149 = .ok (.invokestatic 252, 3) := by decide +kernel
theorem dX7_fails_152 : decode cX7_fails 152 = .ok (.ireturn, 1) := by decide +kernel
theorem dX7_seed_0 : decode cX7_seed 0 = .ok (.aload_n 0, 1) := by decide +kernel
theorem dX7_seed_1 : decode cX7_seed 1 = .ok (.getfield 267, 3) := by decide +kernel
theorem dX7_seed_4 : decode cX7_seed 4 = .ok (.lstore_n 3, 1) := by decide +kernel
theorem dX7_seed_5 : decode cX7_seed 5 = .ok (.aload_n 0, 1) := by decide +kernel
theorem dX7_seed_6 : decode cX7_seed 6 = .ok (.lload_n 1, 1) := by decide +kernel
theorem dX7_seed_7 : decode cX7_seed 7 = .ok (.putfield 267, 3) := by decide +kernel
theorem dX7_seed_10 : decode cX7_seed 10 = .ok (.lload_n 3, 1) := by decide +kernel
theorem dX7_seed_11 : decode cX7_seed 11 = .ok (.lreturn, 1) := by decide +kernel
theorem dX7_drawn_0 : decode cX7_drawn 0 = .ok (.iload_n 1, 1) := by decide +kernel
theorem dX7_drawn_1 : decode cX7_drawn 1 = .ok (.i2l, 1) := by decide +kernel
theorem dX7_drawn_2 : decode cX7_drawn 2 = .ok (.lconst 1, 1) := by decide +kernel
theorem dX7_drawn_3 : decode cX7_drawn 3 = .ok (.ldc2_w 271, 3) := by decide +kernel
theorem dX7_drawn_6 : decode cX7_drawn 6 = .ok (.invokestatic 78, 3) := by decide +kernel
theorem dX7_drawn_9 : decode cX7_drawn 9 = .ok (.ifCond .ne 6, 3) := by decide +kernel
theorem dX7_drawn_12 : decode cX7_drawn 12 = .ok (.bipush (-2), 2) := by decide +kernel
theorem dX7_drawn_14 : decode cX7_drawn 14 = .ok (.ireturn, 1) := by decide +kernel
theorem dX7_drawn_15 : decode cX7_drawn 15 = .ok (.iconst 0, 1) := by decide +kernel
theorem dX7_drawn_16 : decode cX7_drawn 16 = .ok (.istore_n 2, 1) := by decide +kernel
theorem dX7_drawn_17 : decode cX7_drawn 17 = .ok (.iconst 0, 1) := by decide +kernel
theorem dX7_drawn_18 : decode cX7_drawn 18 = .ok (.istore_n 3, 1) := by decide +kernel
theorem dX7_drawn_19 : decode cX7_drawn 19 = .ok (.iload_n 3, 1) := by decide +kernel
theorem dX7_drawn_20 : decode cX7_drawn 20 = .ok (.iload_n 1, 1) := by decide +kernel
theorem dX7_drawn_21 : decode cX7_drawn 21 = .ok (.if_icmp .ge 95, 3) := by decide +kernel
theorem dX7_drawn_24 : decode cX7_drawn 24 = .ok (.aload_n 0, 1) := by decide +kernel
theorem dX7_drawn_25 : decode cX7_drawn 25 = .ok (.aload_n 0, 1) := by decide +kernel
theorem dX7_drawn_26 : decode cX7_drawn 26 = .ok (.getfield 267, 3) := by decide +kernel
theorem dX7_drawn_29 : decode cX7_drawn 29 = .ok (.ldc2_w 273, 3) := by decide +kernel
theorem dX7_drawn_32 : decode cX7_drawn 32 = .ok (.lmul, 1) := by decide +kernel
theorem dX7_drawn_33 : decode cX7_drawn 33 = .ok (.ldc2_w 275, 3) := by decide +kernel
theorem dX7_drawn_36 : decode cX7_drawn 36 = .ok (.ladd, 1) := by decide +kernel
theorem dX7_drawn_37 : decode cX7_drawn 37 = .ok (.putfield 267, 3) := by decide +kernel
theorem dX7_drawn_40 : decode cX7_drawn 40 = .ok (.aload_n 0, 1) := by decide +kernel
theorem dX7_drawn_41 : decode cX7_drawn 41 = .ok (.getfield 267, 3) := by decide +kernel
theorem dX7_drawn_44 : decode cX7_drawn 44 = .ok (.bipush 33, 2) := by decide +kernel
theorem dX7_drawn_46 : decode cX7_drawn 46 = .ok (.lushr, 1) := by decide +kernel
theorem dX7_drawn_47 : decode cX7_drawn 47 = .ok (.lstore 4, 2) := by decide +kernel
theorem dX7_drawn_49 : decode cX7_drawn 49 = .ok (.iconst 0, 1) := by decide +kernel
theorem dX7_drawn_50 : decode cX7_drawn 50 = .ok (.istore 6, 2) := by decide +kernel
theorem dX7_drawn_52 : decode cX7_drawn 52 = .ok (.iconst 0, 1) := by decide +kernel
theorem dX7_drawn_53 : decode cX7_drawn 53 = .ok (.istore 7, 2) := by decide +kernel
theorem dX7_drawn_55 : decode cX7_drawn 55 = .ok (.iload 7, 2) := by decide +kernel
theorem dX7_drawn_57 : decode cX7_drawn 57 = .ok (.iconst 4, 1) := by decide +kernel
theorem dX7_drawn_58 : decode cX7_drawn 58 = .ok (.if_icmp .ge 31, 3) := by decide +kernel
theorem dX7_drawn_61 : decode cX7_drawn 61 = .ok (.bipush 10, 2) := by decide +kernel
theorem dX7_drawn_63 : decode cX7_drawn 63 = .ok (.iload 6, 2) := by decide +kernel
theorem dX7_drawn_65 : decode cX7_drawn 65 = .ok (.imul, 1) := by decide +kernel
theorem dX7_drawn_66 : decode cX7_drawn 66 = .ok (.lload 4, 2) := by decide +kernel
theorem dX7_drawn_68 : decode cX7_drawn 68 = .ok (.iconst 3, 1) := by decide +kernel
theorem dX7_drawn_69 : decode cX7_drawn 69 = .ok (.iload 7, 2) := by decide +kernel
theorem dX7_drawn_71 : decode cX7_drawn 71 = .ok (.imul, 1) := by decide +kernel
theorem dX7_drawn_72 : decode cX7_drawn 72 = .ok (.lshr, 1) := by decide +kernel
theorem dX7_drawn_73 : decode cX7_drawn 73 = .ok (.ldc2_w 82, 3) := by decide +kernel
theorem dX7_drawn_76 : decode cX7_drawn 76 = .ok (.lrem, 1) := by decide +kernel
theorem dX7_drawn_77 : decode cX7_drawn 77 = .ok (.l2i, 1) := by decide +kernel
theorem dX7_drawn_78 : decode cX7_drawn 78 = .ok (.iadd, 1) := by decide +kernel
theorem dX7_drawn_79 : decode cX7_drawn 79 = .ok (.iconst 1, 1) := by decide +kernel
theorem dX7_drawn_80 : decode cX7_drawn 80 = .ok (.iadd, 1) := by decide +kernel
theorem dX7_drawn_81 : decode cX7_drawn 81 = .ok (.istore 6, 2) := by decide +kernel
theorem dX7_drawn_83 : decode cX7_drawn 83 = .ok (.iinc 7 1, 3) := by decide +kernel
theorem dX7_drawn_86 : decode cX7_drawn 86 = .ok (.goto (-31), 3) := by decide +kernel
theorem dX7_drawn_89 : decode cX7_drawn 89 = .ok (.iload_n 2, 1) := by decide +kernel
theorem dX7_drawn_90 : decode cX7_drawn 90 = .ok (.aload_n 0, 1) := by decide +kernel
theorem dX7_drawn_91 : decode cX7_drawn 91 = .ok (.getfield 13, 3) := by decide +kernel
theorem dX7_drawn_94 : decode cX7_drawn 94 = .ok (.iload 6, 2) := by decide +kernel
theorem dX7_drawn_96 : decode cX7_drawn 96 = .ok (.aload_n 0, 1) := by decide +kernel
theorem dX7_drawn_97 : decode cX7_drawn 97 = .ok (.getfield 101, 3) := by decide +kernel
theorem dX7_drawn_100 : decode cX7_drawn 100 = .ok (.bipush 15, 2) := by decide +kernel
theorem dX7_drawn_102 : decode cX7_drawn 102 = .ok (.invokestatic 105, 3) := by decide +kernel
theorem dX7_drawn_105 : decode cX7_drawn 105 = .ok (.invokestatic 69, 3) := by decide +kernel
theorem dX7_drawn_108 : decode cX7_drawn 108 = .ok (.iadd, 1) := by decide +kernel
theorem dX7_drawn_109 : decode cX7_drawn 109 = .ok (.istore_n 2, 1) := by decide +kernel
theorem dX7_drawn_110 : decode cX7_drawn 110 = .ok (.iinc 3 1, 3) := by decide +kernel
theorem dX7_drawn_113 : decode cX7_drawn 113 = .ok (.goto (-94), 3) := by decide +kernel
theorem dX7_drawn_116 : decode cX7_drawn 116 = .ok (.iload_n 2, 1) := by decide +kernel
theorem dX7_drawn_117 : decode cX7_drawn 117 = .ok (.ireturn, 1) := by decide +kernel
theorem dX7_keep_0 : decode cX7_keep 0 = .ok (.iload_n 1, 1) := by decide +kernel
theorem dX7_keep_1 : decode cX7_keep 1 = .ok (.i2l, 1) := by decide +kernel
theorem dX7_keep_2 : decode cX7_keep 2 = .ok (.lconst 0, 1) := by decide +kernel
theorem dX7_keep_3 : decode cX7_keep 3 = .ok (.lconst 1, 1) := by decide +kernel
theorem dX7_keep_4 : decode cX7_keep 4 = .ok (.invokestatic 78, 3) := by decide +kernel
theorem dX7_keep_7 : decode cX7_keep 7 = .ok (.ifCond .ne 5, 3) := by decide +kernel
theorem dX7_keep_10 : decode cX7_keep 10 = .ok (.iconst (-1), 1) := by decide +kernel
theorem dX7_keep_11 : decode cX7_keep 11 = .ok (.ireturn, 1) := by decide +kernel
theorem dX7_keep_12 : decode cX7_keep 12 = .ok (.aload_n 0, 1) := by decide +kernel
theorem dX7_keep_13 : decode cX7_keep 13 = .ok (.getfield 25, 3) := by decide +kernel
theorem dX7_keep_16 : decode cX7_keep 16 = .ok (.iload_n 1, 1) := by decide +kernel
theorem dX7_keep_17 : decode cX7_keep 17 = .ok (.iconst 1, 1) := by decide +kernel
theorem dX7_keep_18 : decode cX7_keep 18 = .ok (.bastore, 1) := by decide +kernel
theorem dX7_keep_19 : decode cX7_keep 19 = .ok (.iconst 0, 1) := by decide +kernel
theorem dX7_keep_20 : decode cX7_keep 20 = .ok (.istore_n 2, 1) := by decide +kernel
theorem dX7_keep_21 : decode cX7_keep 21 = .ok (.iload_n 2, 1) := by decide +kernel
theorem dX7_keep_22 : decode cX7_keep 22 = .ok (.bipush 32, 2) := by decide +kernel
theorem dX7_keep_24 : decode cX7_keep 24 = .ok (.if_icmp .ge 26, 3) := by decide +kernel
theorem dX7_keep_27 : decode cX7_keep 27 = .ok (.aload_n 0, 1) := by decide +kernel
theorem dX7_keep_28 : decode cX7_keep 28 = .ok (.getfield 22, 3) := by decide +kernel
theorem dX7_keep_31 : decode cX7_keep 31 = .ok (.bipush 32, 2) := by decide +kernel
theorem dX7_keep_33 : decode cX7_keep 33 = .ok (.iload_n 1, 1) := by decide +kernel
theorem dX7_keep_34 : decode cX7_keep 34 = .ok (.imul, 1) := by decide +kernel
theorem dX7_keep_35 : decode cX7_keep 35 = .ok (.iload_n 2, 1) := by decide +kernel
theorem dX7_keep_36 : decode cX7_keep 36 = .ok (.iadd, 1) := by decide +kernel
theorem dX7_keep_37 : decode cX7_keep 37 = .ok (.aload_n 0, 1) := by decide +kernel
theorem dX7_keep_38 : decode cX7_keep 38 = .ok (.getfield 13, 3) := by decide +kernel
theorem dX7_keep_41 : decode cX7_keep 41 = .ok (.iload_n 2, 1) := by decide +kernel
theorem dX7_keep_42 : decode cX7_keep 42 = .ok (.iaload, 1) := by decide +kernel
theorem dX7_keep_43 : decode cX7_keep 43 = .ok (.iastore, 1) := by decide +kernel
theorem dX7_keep_44 : decode cX7_keep 44 = .ok (.iinc 2 1, 3) := by decide +kernel
theorem dX7_keep_47 : decode cX7_keep 47 = .ok (.goto (-26), 3) := by decide +kernel
theorem dX7_keep_50 : decode cX7_keep 50 = .ok (.aload_n 0, 1) := by decide +kernel
theorem dX7_keep_51 : decode cX7_keep 51 = .ok (.invokevirtual 184, 3) := by decide +kernel
theorem dX7_keep_54 : decode cX7_keep 54 = .ok (.ireturn, 1) := by decide +kernel
theorem dX7_again_0 : decode cX7_again 0 = .ok (.iload_n 1, 1) := by decide +kernel
theorem dX7_again_1 : decode cX7_again 1 = .ok (.i2l, 1) := by decide +kernel
theorem dX7_again_2 : decode cX7_again 2 = .ok (.lconst 0, 1) := by decide +kernel
theorem dX7_again_3 : decode cX7_again 3 = .ok (.lconst 1, 1) := by decide +kernel
theorem dX7_again_4 : decode cX7_again 4 = .ok (.invokestatic 78, 3) := by decide +kernel
theorem dX7_again_7 : decode cX7_again 7 = .ok (.ifCond .ne 5, 3) := by decide +kernel
theorem dX7_again_10 : decode cX7_again 10 = .ok (.iconst (-1), 1) := by decide +kernel
theorem dX7_again_11 : decode cX7_again 11 = .ok (.ireturn, 1) := by decide +kernel
theorem dX7_again_12 : decode cX7_again 12 = .ok (.aload_n 0, 1) := by decide +kernel
theorem dX7_again_13 : decode cX7_again 13 = .ok (.getfield 25, 3) := by decide +kernel
theorem dX7_again_16 : decode cX7_again 16 = .ok (.iload_n 1, 1) := by decide +kernel
theorem dX7_again_17 : decode cX7_again 17 = .ok (.baload, 1) := by decide +kernel
theorem dX7_again_18 : decode cX7_again 18 = .ok (.ifCond .ne 6, 3) := by decide +kernel
theorem dX7_again_21 : decode cX7_again 21 = .ok (.bipush (-3), 2) := by decide +kernel
theorem dX7_again_23 : decode cX7_again 23 = .ok (.ireturn, 1) := by decide +kernel
theorem dX7_again_24 : decode cX7_again 24 = .ok (.iconst 0, 1) := by decide +kernel
theorem dX7_again_25 : decode cX7_again 25 = .ok (.istore_n 2, 1) := by decide +kernel
theorem dX7_again_26 : decode cX7_again 26 = .ok (.iload_n 2, 1) := by decide +kernel
theorem dX7_again_27 : decode cX7_again 27 = .ok (.bipush 32, 2) := by decide +kernel
theorem dX7_again_29 : decode cX7_again 29 = .ok (.if_icmp .ge 26, 3) := by decide +kernel
theorem dX7_again_32 : decode cX7_again 32 = .ok (.aload_n 0, 1) := by decide +kernel
theorem dX7_again_33 : decode cX7_again 33 = .ok (.getfield 13, 3) := by decide +kernel
theorem dX7_again_36 : decode cX7_again 36 = .ok (.iload_n 2, 1) := by decide +kernel
theorem dX7_again_37 : decode cX7_again 37 = .ok (.aload_n 0, 1) := by decide +kernel
theorem dX7_again_38 : decode cX7_again 38 = .ok (.getfield 22, 3) := by decide +kernel
theorem dX7_again_41 : decode cX7_again 41 = .ok (.bipush 32, 2) := by decide +kernel
theorem dX7_again_43 : decode cX7_again 43 = .ok (.iload_n 1, 1) := by decide +kernel
theorem dX7_again_44 : decode cX7_again 44 = .ok (.imul, 1) := by decide +kernel
theorem dX7_again_45 : decode cX7_again 45 = .ok (.iload_n 2, 1) := by decide +kernel
theorem dX7_again_46 : decode cX7_again 46 = .ok (.iadd, 1) := by decide +kernel
theorem dX7_again_47 : decode cX7_again 47 = .ok (.iaload, 1) := by decide +kernel
theorem dX7_again_48 : decode cX7_again 48 = .ok (.iastore, 1) := by decide +kernel
theorem dX7_again_49 : decode cX7_again 49 = .ok (.iinc 2 1, 3) := by decide +kernel
theorem dX7_again_52 : decode cX7_again 52 = .ok (.goto (-26), 3) := by decide +kernel
theorem dX7_again_55 : decode cX7_again 55 = .ok (.aload_n 0, 1) := by decide +kernel
theorem dX7_again_56 : decode cX7_again 56 = .ok (.iconst 0, 1) := by decide +kernel
theorem dX7_again_57 : decode cX7_again 57 = .ok (.putfield 167, 3) := by decide +kernel
theorem dX7_again_60 : decode cX7_again 60 = .ok (.aload_n 0, 1) := by decide +kernel
theorem dX7_again_61 : decode cX7_again 61 = .ok (.invokevirtual 184, 3) := by decide +kernel
theorem dX7_again_64 : decode cX7_again 64 = .ok (.ireturn, 1) := by decide +kernel
theorem dJ6_bitCount_0f7a4_0 : decode cJ6_bitCount_0f7a4 0 = .ok (.iload_n 0, 1) := by decide +kernel
theorem dJ6_bitCount_0f7a4_1 : decode cJ6_bitCount_0f7a4 1 = .ok (.iload_n 0, 1) := by decide +kernel
theorem dJ6_bitCount_0f7a4_2 : decode cJ6_bitCount_0f7a4 2 = .ok (.iconst 1, 1) := by decide +kernel
theorem dJ6_bitCount_0f7a4_3 : decode cJ6_bitCount_0f7a4 3 = .ok (.iushr, 1) := by decide +kernel
theorem dJ6_bitCount_0f7a4_4 : decode cJ6_bitCount_0f7a4 4 = .ok (.ldc_w 265, 3) := by decide +kernel
theorem dJ6_bitCount_0f7a4_7 : decode cJ6_bitCount_0f7a4 7 = .ok (.iand, 1) := by decide +kernel
theorem dJ6_bitCount_0f7a4_8 : decode cJ6_bitCount_0f7a4 8 = .ok (.isub, 1) := by decide +kernel
theorem dJ6_bitCount_0f7a4_9 : decode cJ6_bitCount_0f7a4 9 = .ok (.istore_n 0, 1) := by decide +kernel
theorem dJ6_bitCount_0f7a4_10 : decode cJ6_bitCount_0f7a4 10 = .ok (.iload_n 0, 1) := by decide +kernel
theorem dJ6_bitCount_0f7a4_11 : decode cJ6_bitCount_0f7a4 11 = .ok (.ldc_w 266, 3) := by decide +kernel
theorem dJ6_bitCount_0f7a4_14 : decode cJ6_bitCount_0f7a4 14 = .ok (.iand, 1) := by decide +kernel
theorem dJ6_bitCount_0f7a4_15 : decode cJ6_bitCount_0f7a4 15 = .ok (.iload_n 0, 1) := by decide +kernel
theorem dJ6_bitCount_0f7a4_16 : decode cJ6_bitCount_0f7a4 16 = .ok (.iconst 2, 1) := by decide +kernel
theorem dJ6_bitCount_0f7a4_17 : decode cJ6_bitCount_0f7a4 17 = .ok (.iushr, 1) := by decide +kernel
theorem dJ6_bitCount_0f7a4_18 : decode cJ6_bitCount_0f7a4 18 = .ok (.ldc_w 266, 3) := by decide +kernel
theorem dJ6_bitCount_0f7a4_21 : decode cJ6_bitCount_0f7a4 21 = .ok (.iand, 1) := by decide +kernel
theorem dJ6_bitCount_0f7a4_22 : decode cJ6_bitCount_0f7a4 22 = .ok (.iadd, 1) := by decide +kernel
theorem dJ6_bitCount_0f7a4_23 : decode cJ6_bitCount_0f7a4 23 = .ok (.istore_n 0, 1) := by decide +kernel
theorem dJ6_bitCount_0f7a4_24 : decode cJ6_bitCount_0f7a4 24 = .ok (.iload_n 0, 1) := by decide +kernel
theorem dJ6_bitCount_0f7a4_25 : decode cJ6_bitCount_0f7a4 25 = .ok (.iload_n 0, 1) := by decide +kernel
theorem dJ6_bitCount_0f7a4_26 : decode cJ6_bitCount_0f7a4 26 = .ok (.iconst 4, 1) := by decide +kernel
theorem dJ6_bitCount_0f7a4_27 : decode cJ6_bitCount_0f7a4 27 = .ok (.iushr, 1) := by decide +kernel
theorem dJ6_bitCount_0f7a4_28 : decode cJ6_bitCount_0f7a4 28 = .ok (.iadd, 1) := by decide +kernel
theorem dJ6_bitCount_0f7a4_29 : decode cJ6_bitCount_0f7a4 29 = .ok (.ldc_w 267, 3) := by decide +kernel
theorem dJ6_bitCount_0f7a4_32 : decode cJ6_bitCount_0f7a4 32 = .ok (.iand, 1) := by decide +kernel
theorem dJ6_bitCount_0f7a4_33 : decode cJ6_bitCount_0f7a4 33 = .ok (.istore_n 0, 1) := by decide +kernel
theorem dJ6_bitCount_0f7a4_34 : decode cJ6_bitCount_0f7a4 34 = .ok (.iload_n 0, 1) := by decide +kernel
theorem dJ6_bitCount_0f7a4_35 : decode cJ6_bitCount_0f7a4 35 = .ok (.iload_n 0, 1) := by decide +kernel
theorem dJ6_bitCount_0f7a4_36 : decode cJ6_bitCount_0f7a4 36 = .ok (.bipush 8, 2) := by decide +kernel
theorem dJ6_bitCount_0f7a4_38 : decode cJ6_bitCount_0f7a4 38 = .ok (.iushr, 1) := by decide +kernel
theorem dJ6_bitCount_0f7a4_39 : decode cJ6_bitCount_0f7a4 39 = .ok (.iadd, 1) := by decide +kernel
theorem dJ6_bitCount_0f7a4_40 : decode cJ6_bitCount_0f7a4 40 = .ok (.istore_n 0, 1) := by decide +kernel
theorem dJ6_bitCount_0f7a4_41 : decode cJ6_bitCount_0f7a4 41 = .ok (.iload_n 0, 1) := by decide +kernel
theorem dJ6_bitCount_0f7a4_42 : decode cJ6_bitCount_0f7a4 42 = .ok (.iload_n 0, 1) := by decide +kernel
theorem dJ6_bitCount_0f7a4_43 : decode cJ6_bitCount_0f7a4 43 = .ok (.bipush 16, 2) := by decide +kernel
theorem dJ6_bitCount_0f7a4_45 : decode cJ6_bitCount_0f7a4 45 = .ok (.iushr, 1) := by decide +kernel
theorem dJ6_bitCount_0f7a4_46 : decode cJ6_bitCount_0f7a4 46 = .ok (.iadd, 1) := by decide +kernel
theorem dJ6_bitCount_0f7a4_47 : decode cJ6_bitCount_0f7a4 47 = .ok (.istore_n 0, 1) := by decide +kernel
theorem dJ6_bitCount_0f7a4_48 : decode cJ6_bitCount_0f7a4 48 = .ok (.iload_n 0, 1) := by decide +kernel
theorem dJ6_bitCount_0f7a4_49 : decode cJ6_bitCount_0f7a4 49 = .ok (.bipush 63, 2) := by decide +kernel
theorem dJ6_bitCount_0f7a4_51 : decode cJ6_bitCount_0f7a4 51 = .ok (.iand, 1) := by decide +kernel
theorem dJ6_bitCount_0f7a4_52 : decode cJ6_bitCount_0f7a4 52 = .ok (.ireturn, 1) := by decide +kernel
theorem dJ9_abs_0f7a4_0 : decode cJ9_abs_0f7a4 0 = .ok (.iload_n 0, 1) := by decide +kernel
theorem dJ9_abs_0f7a4_1 : decode cJ9_abs_0f7a4 1 = .ok (.ifCond .ge 8, 3) := by decide +kernel
theorem dJ9_abs_0f7a4_4 : decode cJ9_abs_0f7a4 4 = .ok (.iload_n 0, 1) := by decide +kernel
theorem dJ9_abs_0f7a4_5 : decode cJ9_abs_0f7a4 5 = .ok (.ineg, 1) := by decide +kernel
theorem dJ9_abs_0f7a4_6 : decode cJ9_abs_0f7a4 6 = .ok (.goto 4, 3) := by decide +kernel
theorem dJ9_abs_0f7a4_9 : decode cJ9_abs_0f7a4 9 = .ok (.iload_n 0, 1) := by decide +kernel
theorem dJ9_abs_0f7a4_10 : decode cJ9_abs_0f7a4 10 = .ok (.ireturn, 1) := by decide +kernel
end
section
/-! THE UNIFORM WORLD: 59 cells, whose references never change; a state of it is a table of ints and one of longs -/
abbrev Hp : Type := (Nat → Nat → Int32) × (Nat → Int64)
abbrev Cx : Type := (Nat → ClassId) × (Nat → Nat → Nat) × (Nat → ClassId) × (Nat → Nat)
abbrev classes : List vw_C := [(RX0, TX0, 6), (RX1, TX1, 5), (RX2, TX2, 4), (RX3, TX3, 13), (RX4, TX4, 6), (RX6, TX6, 9), (RX7, TX7, 30)]
/-- what a cell is: a class's number, 100 an array of ints, 101 of booleans, 102 of references -/
def tyL : List Nat := [5, 3, 100, 100, 100, 100, 2, 100, 100, 4, 100, 100, 100, 100, 4, 100, 100, 100, 100, 4, 100, 100, 100, 100, 4, 100, 100, 100, 100, 102, 101, 0, 100, 100, 100, 100, 1, 100, 100, 100, 101, 6, 100, 100, 100, 100, 100, 101, 100, 100, 100, 100, 100, 100, 100, 100, 100, 100, 100]
def tY (i : Nat) : Nat := tyL.getD i 200
def lnL : List Nat := [0, 0, 60, 4, 3, 16, 0, 4, 3, 0, 16, 4, 12, 12, 0, 16, 4, 12, 12, 0, 16, 4, 12, 12, 0, 16, 4, 12, 12, 2, 2, 0, 14, 14, 14, 14, 0, 6, 6, 6, 6, 0, 60, 32, 32, 448, 64, 2, 4, 3, 4, 3, 16, 6, 6, 6, 6, 12, 16]
def lN_ (i : Nat) : Nat := lnL.getD i 0
def rfL : List (List Nat) := [[1, 6, 9, 14, 29, 30, 31, 36, 0], [2, 0, 3, 4, 5], [], [], [], [], [7, 8], [], [], [6, 10, 11, 12, 13], [], [], [], [], [6, 15, 16, 17, 18], [], [], [], [], [6, 20, 21, 22, 23], [], [], [], [], [6, 25, 26, 27, 28], [], [], [], [], [19, 24], [], [32, 33, 34, 35], [], [], [], [], [37, 38, 39, 40], [], [], [], [], [42, 0, 43, 44, 45, 0, 0, 46, 47, 48, 49, 0, 0, 0, 50, 51, 52, 0, 0, 0, 0, 0, 53, 54, 55, 56, 0, 0, 57, 58]]
def rF (i k : Nat) : Nat := (rfL.getD i []).getD k 0
/-- a class's fields: 0 an int, 1 a long, 2 a reference -/
def fkL : List (List Nat) := [[2, 2, 2, 2, 0, 0], [2, 2, 2, 2, 0], [2, 2, 0, 0], [2, 0, 2, 2, 2, 0, 0, 0, 0, 0, 0, 0, 0], [2, 2, 2, 2, 2, 0], [2, 2, 2, 2, 2, 2, 2, 2, 1], [2, 0, 2, 2, 2, 0, 0, 2, 2, 2, 2, 0, 0, 0, 2, 2, 2, 0, 0, 0, 0, 0, 2, 2, 2, 2, 0, 1, 2, 2]]
def fK (c k : Nat) : Nat := (fkL.getD c []).getD k 0
def nF (c : Nat) : Nat := (fkL.getD c []).length
def fV (X : Cx) (h : Hp) (i c k : Nat) : Value := if fK c k = 0 then .int (h.1 i k) else if fK c k = 1 then .long (h.2 i) else .ref (X.2.2.2 (rF i k))
def cE (X : Cx) (h : Hp) (i : Nat) : va_E := if tY i < 100 then .inr (tY i, (List.range (nF (tY i))).map (fV X h i (tY i))) else if tY i = 102 then .inl (X.2.2.1 2, lN_ i, .inr (.inr (.inr (.inr (fun j => some (X.2.2.2 (rF i j))))))) else .inl (X.2.2.1 (tY i - 100), lN_ i, .inl (h.1 i))
def wL (X : Cx) (h : Hp) : va_W := (List.range 59).map (fun i => (X.2.2.2 i, cE X h i))
def wD (X : Cx) : va_G := (X.1, X.2.1)
def tyS (X : Cx) : List (ClassId × FieldType) := [(X.2.2.1 0, .int), (X.2.2.1 1, .boolean), (X.2.2.1 2, .object "WordKin$Ways")]
def Inj (X : Cx) : Prop := ∀ i j : Nat, i < 59 → j < 59 → X.2.2.2 i = X.2.2.2 j → i = j
def AD (X : Cx) : Nat → Prop := fun q => ∃ i : Nat, i < 59 ∧ q = X.2.2.2 i
def Nst (U : State) : Prop := ∀ w ∈ nestW, va_Nw w U
def Wd (X : Cx) (h : Hp) (U : State) : Prop := va_P (wD X) classes (wL X h) U.heap ∧ va_K (wD X) classes (tyS X) U ∧ Nst U
def HS (X : Cx) (A : Nat → Prop) (h : Hp) (s : State) (H : Heap) (locs : List Loc) : Prop := va_P (wD X) classes (wL X h) H ∧ va_S A s.heap H locs ∧ Inj X ∧ ∀ q, AD X q → A q
/-- the tables of a state that is written -/
def sA (h : Hp) (i : Nat) (f : Nat → Int32) : Hp := (fun a => if a = i then f else h.1 a, h.2)
def sI (h : Hp) (i k : Nat) (v : Int32) : Hp := sA h i (upd (h.1 i) k v)
def sL (h : Hp) (i : Nat) (v : Int64) : Hp := (h.1, fun a => if a = i then v else h.2 a)
def okI (j : Int32) (n : Nat) : Bool := decide (¬ (j < 0 ∨ n ≤ j.toNatClampNeg))
def okZ (v : Int32) : Bool := decide (v = 0 ∨ v = 1)
theorem okI_in {j : Int32} {n : Nat} (h : okI j n = true) : vp_in j n := by
  unfold okI at h
  have h2 : ¬ (j < 0 ∨ n ≤ j.toNatClampNeg) := of_decide_eq_true h
  exact h2
theorem okZ_nar {v : Int32} (h : okZ v = true) : narrow .boolean (.int v) = .int v := by
  unfold okZ at h
  rcases of_decide_eq_true h with rfl | rfl <;> rfl
theorem ite_ok {c : Prop} {_ : Decidable c} {α : Type} {a : Option α} {r : α} (h : (if c then a else none) = some r) : c ∧ a = some r := by
  by_cases hc : c
  · rw [if_pos hc] at h; exact ⟨hc, h⟩
  · rw [if_neg hc] at h; cases h
theorem ite_no {c : Prop} {_ : Decidable c} {α : Type} {a : Option α} {r : α} (h : (if c then none else a) = some r) : ¬ c ∧ a = some r := by
  by_cases hc : c
  · rw [if_pos hc] at h; cases h
  · rw [if_neg hc] at h; exact ⟨hc, h⟩
theorem bind_ok {α β : Type} {a : Option α} {f : α → Option β} {r : β} (h : a.bind f = some r) : ∃ q, a = some q ∧ f q = some r := by
  cases a with
  | none => cases h
  | some q => exact ⟨q, rfl, h⟩
theorem tY_lt {i c : Nat} (h : tY i = c) (hc : c < 200) : i < 59 := by
  rcases Nat.lt_or_ge i 59 with q | q
  · exact q
  · exfalso
    have : tY i = 200 := by
      unfold tY
      rw [List.getD_eq_getElem?_getD, List.getElem?_eq_none (by exact q)]
      rfl
    omega
theorem wL_at {X : Cx} {h : Hp} {i : Nat} (hi : i < 59) : (wL X h)[i]? = some (X.2.2.2 i, cE X h i) := by
  simp [wL, hi]
theorem wL_obj {X : Cx} {h : Hp} {i ci : Nat} (hi : tY i = ci) (hc : ci < 100) : (wL X h)[i]? = some (X.2.2.2 i, .inr (ci, (List.range (nF ci)).map (fV X h i ci))) := by
  rw [wL_at (tY_lt hi (by omega))]
  subst hi
  unfold cE
  rw [if_pos hc]
theorem wL_int {X : Cx} {h : Hp} {i : Nat} (hi : tY i = 100) : (wL X h)[i]? = some (X.2.2.2 i, .inl (X.2.2.1 0, lN_ i, .inl (h.1 i))) := by
  rw [wL_at (tY_lt hi (by omega))]
  unfold cE
  rw [if_neg (by omega), if_neg (by omega), hi]
theorem wL_bool {X : Cx} {h : Hp} {i : Nat} (hi : tY i = 101) : (wL X h)[i]? = some (X.2.2.2 i, .inl (X.2.2.1 1, lN_ i, .inl (h.1 i))) := by
  rw [wL_at (tY_lt hi (by omega))]
  unfold cE
  rw [if_neg (by omega), if_neg (by omega), hi]
theorem wL_ref {X : Cx} {h : Hp} {i : Nat} (hi : tY i = 102) : (wL X h)[i]? = some (X.2.2.2 i, .inl (X.2.2.1 2, lN_ i, .inr (.inr (.inr (.inr (fun j => some (X.2.2.2 (rF i j)))))))) := by
  rw [wL_at (tY_lt hi (by omega))]
  unfold cE
  rw [if_neg (by omega), if_pos hi]
theorem wL_set {X : Cx} {h h' : Hp} {i : Nat} {e : va_E} (he : cE X h' i = e) (ho : ∀ j, j ≠ i → cE X h' j = cE X h j) : (wL X h).set i (X.2.2.2 i, e) = wL X h' := by
  apply List.ext_getElem?
  intro j
  rw [List.getElem?_set]
  by_cases hj : i = j
  · subst hj
    rw [if_pos rfl]
    simp only [wL, List.length_map, List.length_range]
    by_cases h9 : i < 59
    · rw [if_pos h9]; simp [h9, he]
    · rw [if_neg h9]; simp [h9]
  · rw [if_neg hj]
    simp only [wL]
    by_cases h9 : j < 59
    · simp [h9, ho j (fun q => hj q.symm)]
    · simp [h9]
theorem fV_other {X : Cx} {h : Hp} {i : Nat} {f : Nat → Int32} {j c k : Nat} (hj : j ≠ i) : fV X (sA h i f) j c k = fV X h j c k := by
  simp [fV, sA, hj]
theorem cE_other {X : Cx} {h : Hp} {i : Nat} {f : Nat → Int32} {j : Nat} (hj : j ≠ i) : cE X (sA h i f) j = cE X h j := by
  have h1 : fV X (sA h i f) j (tY j) = fV X h j (tY j) := funext fun k => fV_other hj
  unfold cE
  rw [h1]
  simp [sA, hj]
theorem cE_otherL {X : Cx} {h : Hp} {i : Nat} {v : Int64} {j : Nat} (hj : j ≠ i) : cE X (sL h i v) j = cE X h j := by
  have h1 : fV X (sL h i v) j (tY j) = fV X h j (tY j) := funext fun k => by simp [fV, sL, hj]
  unfold cE
  rw [h1]
  simp [sL]
theorem cE_int {X : Cx} {h : Hp} {i : Nat} {f : Nat → Int32} (hi : tY i = 100) : cE X (sA h i f) i = .inl (X.2.2.1 0, lN_ i, .inl f) := by
  unfold cE
  rw [if_neg (by omega), if_neg (by omega), hi]
  simp [sA]
theorem cE_bool {X : Cx} {h : Hp} {i : Nat} {f : Nat → Int32} (hi : tY i = 101) : cE X (sA h i f) i = .inl (X.2.2.1 1, lN_ i, .inl f) := by
  unfold cE
  rw [if_neg (by omega), if_neg (by omega), hi]
  simp [sA]
theorem cE_put {X : Cx} {h : Hp} {i ci k : Nat} {v : Int32} (hi : tY i = ci) (hc : ci < 100) (hk : k < nF ci) (hf : fK ci k = 0) : cE X (sI h i k v) i = .inr (ci, ((List.range (nF ci)).map (fV X h i ci)).set k (.int v)) := by
  subst hi
  unfold cE
  rw [if_pos hc]
  congr 2
  apply List.ext_getElem?
  intro j
  rw [List.getElem?_set]
  by_cases hj : k = j
  · subst hj
    simp [hk, fV, hf, sI, sA, upd]
  · rw [if_neg hj]
    by_cases h9 : j < nF (tY i)
    · simp only [List.getElem?_map, List.getElem?_range h9, Option.map_some]
      congr 1
      simp [fV, sI, sA, upd, show ¬ j = k from fun q => hj q.symm]
    · simp [h9]
theorem cE_putL {X : Cx} {h : Hp} {i ci k : Nat} {v : Int64} (hi : tY i = ci) (hc : ci < 100) (hk : k < nF ci) (hf : fK ci k = 1) (hu : ∀ j, j < nF ci → j ≠ k → fK ci j ≠ 1) : cE X (sL h i v) i = .inr (ci, ((List.range (nF ci)).map (fV X h i ci)).set k (.long v)) := by
  subst hi
  unfold cE
  rw [if_pos hc]
  congr 2
  apply List.ext_getElem?
  intro j
  rw [List.getElem?_set]
  by_cases hj : k = j
  · subst hj
    simp [hk, fV, hf, sL]
  · rw [if_neg hj]
    by_cases h9 : j < nF (tY i)
    · simp only [List.getElem?_map, List.getElem?_range h9, Option.map_some]
      congr 1
      simp [fV, sL, hu j h9 (fun q => hj q.symm)]
    · simp [h9]
theorem wL_D {X : Cx} {h : Hp} {A : Nat → Prop} (hI : Inj X) (hA : ∀ q, AD X q → A q) : va_D A (wL X h) := by
  constructor
  · intro i j p q hp hq e
    have hi : i < 59 := by
      have := (List.getElem?_eq_some_iff.mp hp).1
      simpa [wL] using this
    have hj : j < 59 := by
      have := (List.getElem?_eq_some_iff.mp hq).1
      simpa [wL] using this
    rw [wL_at hi] at hp
    rw [wL_at hj] at hq
    cases hp
    cases hq
    exact hI i j hi hj e
  · intro k q hq
    have hk : k < 59 := by
      have := (List.getElem?_eq_some_iff.mp hq).1
      simpa [wL] using this
    rw [wL_at hk] at hq
    cases hq
    exact hA _ ⟨k, hk, rfl⟩
theorem fs_at {X : Cx} {h : Hp} {i ci k : Nat} (hk : k < nF ci) : ((List.range (nF ci)).map (fV X h i ci))[k]? = some (fV X h i ci k) := by
  simp [hk]
section WK
variable {p : Program} {l : Launch} {e : Env} {R : Room} {s : State} {m : MethodId} {args : Array Value} {below : List Frame} {meth : Method} {c : Code} {H : Heap} {locs : List Loc} {cells slots : Nat} {Q : State → Prop} {cc : ByteArray} {pc nL : Nat} {ls : Array Slot} {rest : List Value} {X : Cx} {A : Nat → Prop} {h : Hp} {Ts : List Cond} {own : String}
theorem wk_geti (S : CallFix p m c cc nL s args Ts own) (hK : va_K (wD X) classes (tyS X) s) (hH : HS X A h s H locs) {C : String} {T : u_T} {N ci index i k : Nat} (hin : ∀ w ∈ u_ws C T N, w ∈ Ts) (hi : tY i = ci) (hc : classes[ci]? = some (C, T, N)) (hq : ci < 100 ∧ nF ci = N ∧ k < N ∧ fK ci k = 0) (hlink : (Cond.fieldLink own index (T k).1 (T k).2.1 (T k).2.2.1).before args s = true) (hdg : decode cc pc = .ok (.getfield index, 3))
    (kk : W p l e R s m args below meth c H locs cells slots Q (F0 m (pc + 3) ls (.int (h.1 i k) :: rest))) : W p l e R s m args below meth c H locs cells slots Q (F0 m pc ls (.ref (X.2.2.2 i) :: rest)) := by
  obtain ⟨hx, hb, -, hown, hts⟩ := S
  obtain ⟨h1, h2, h3, h4⟩ := hq
  refine va_get hx hb hts hin hown hK hH.1 i (wL_obj hi h1) hc k h3 hlink (fun _ z => z) (v := .int (h.1 i k)) ?_ hdg kk
  rw [fs_at (by omega)]
  simp [fV, h4]
theorem wk_getl (S : CallFix p m c cc nL s args Ts own) (hK : va_K (wD X) classes (tyS X) s) (hH : HS X A h s H locs) {C : String} {T : u_T} {N ci index i k : Nat} (hin : ∀ w ∈ u_ws C T N, w ∈ Ts) (hi : tY i = ci) (hc : classes[ci]? = some (C, T, N)) (hq : ci < 100 ∧ nF ci = N ∧ k < N ∧ fK ci k = 1) (hlink : (Cond.fieldLink own index (T k).1 (T k).2.1 (T k).2.2.1).before args s = true) (hdg : decode cc pc = .ok (.getfield index, 3))
    (kk : W p l e R s m args below meth c H locs cells slots Q (F0 m (pc + 3) ls (.long (h.2 i) :: rest))) : W p l e R s m args below meth c H locs cells slots Q (F0 m pc ls (.ref (X.2.2.2 i) :: rest)) := by
  obtain ⟨hx, hb, -, hown, hts⟩ := S
  obtain ⟨h1, h2, h3, h4⟩ := hq
  refine va_get hx hb hts hin hown hK hH.1 i (wL_obj hi h1) hc k h3 hlink (fun _ z => z) (v := .long (h.2 i)) ?_ hdg kk
  rw [fs_at (by omega)]
  simp [fV, h4]
theorem wk_getr (S : CallFix p m c cc nL s args Ts own) (hK : va_K (wD X) classes (tyS X) s) (hH : HS X A h s H locs) {C : String} {T : u_T} {N ci index i k : Nat} (hin : ∀ w ∈ u_ws C T N, w ∈ Ts) (hi : tY i = ci) (hc : classes[ci]? = some (C, T, N)) (hq : ci < 100 ∧ nF ci = N ∧ k < N ∧ fK ci k = 2) (hlink : (Cond.fieldLink own index (T k).1 (T k).2.1 (T k).2.2.1).before args s = true) (hdg : decode cc pc = .ok (.getfield index, 3))
    (kk : W p l e R s m args below meth c H locs cells slots Q (F0 m (pc + 3) ls (.ref (X.2.2.2 (rF i k)) :: rest))) : W p l e R s m args below meth c H locs cells slots Q (F0 m pc ls (.ref (X.2.2.2 i) :: rest)) := by
  obtain ⟨hx, hb, -, hown, hts⟩ := S
  obtain ⟨h1, h2, h3, h4⟩ := hq
  refine va_get hx hb hts hin hown hK hH.1 i (wL_obj hi h1) hc k h3 hlink (fun _ z => z) (v := .ref (X.2.2.2 (rF i k))) ?_ hdg kk
  rw [fs_at (by omega)]
  simp [fV, h4]
theorem wk_getiN (S : CallFix p m c cc nL s args Ts own) (hK : va_K (wD X) classes (tyS X) s) (hH : HS X A h s H locs) {C host : String} {T : u_T} {N ci index i k : Nat} (hin : ∀ w ∈ u_ws C T N, w ∈ Ts) (hi : tY i = ci) (hc : classes[ci]? = some (C, T, N)) (hq : ci < 100 ∧ nF ci = N ∧ k < N ∧ fK ci k = 0) (hlink : va_Nw (.fieldLinkNest own index (T k).1 (T k).2.1 (T k).2.2.1 host) s) (hdg : decode cc pc = .ok (.getfield index, 3))
    (kk : W p l e R s m args below meth c H locs cells slots Q (F0 m (pc + 3) ls (.int (h.1 i k) :: rest))) : W p l e R s m args below meth c H locs cells slots Q (F0 m pc ls (.ref (X.2.2.2 i) :: rest)) := by
  obtain ⟨hx, hb, -, hown, hts⟩ := S
  obtain ⟨h1, h2, h3, h4⟩ := hq
  refine va_getN hx hb hts hin hown hK hH.1 i (wL_obj hi h1) hc k h3 (va_Nw.use rfl hlink) (fun _ z => z) (v := .int (h.1 i k)) ?_ hdg kk
  rw [fs_at (by omega)]
  simp [fV, h4]
theorem wk_getrN (S : CallFix p m c cc nL s args Ts own) (hK : va_K (wD X) classes (tyS X) s) (hH : HS X A h s H locs) {C host : String} {T : u_T} {N ci index i k : Nat} (hin : ∀ w ∈ u_ws C T N, w ∈ Ts) (hi : tY i = ci) (hc : classes[ci]? = some (C, T, N)) (hq : ci < 100 ∧ nF ci = N ∧ k < N ∧ fK ci k = 2) (hlink : va_Nw (.fieldLinkNest own index (T k).1 (T k).2.1 (T k).2.2.1 host) s) (hdg : decode cc pc = .ok (.getfield index, 3))
    (kk : W p l e R s m args below meth c H locs cells slots Q (F0 m (pc + 3) ls (.ref (X.2.2.2 (rF i k)) :: rest))) : W p l e R s m args below meth c H locs cells slots Q (F0 m pc ls (.ref (X.2.2.2 i) :: rest)) := by
  obtain ⟨hx, hb, -, hown, hts⟩ := S
  obtain ⟨h1, h2, h3, h4⟩ := hq
  refine va_getN hx hb hts hin hown hK hH.1 i (wL_obj hi h1) hc k h3 (va_Nw.use rfl hlink) (fun _ z => z) (v := .ref (X.2.2.2 (rF i k))) ?_ hdg kk
  rw [fs_at (by omega)]
  simp [fV, h4]
theorem wk_puti (S : CallFix p m c cc nL s args Ts own) (hK : va_K (wD X) classes (tyS X) s) (hH : HS X A h s H locs) {C : String} {T : u_T} {N ci index i k : Nat} {v : Int32} (hin : ∀ w ∈ u_ws C T N, w ∈ Ts) (ty0 : Nat → FieldType) (hty : ∀ k, k < N → parseFieldDescriptor (T k).2.2.1 = some (ty0 k)) (hnm : ∀ a, a < N → ∀ b, b < N → a ≠ b → (T a).2.1 ≠ (T b).2.1) (hi : tY i = ci) (hc : classes[ci]? = some (C, T, N)) (hq : ci < 100 ∧ nF ci = N ∧ k < N ∧ fK ci k = 0) (hfin : (T k).2.2.2 = false) (hd : parseFieldDescriptor (T k).2.2.1 = some .int) (hlink : (Cond.fieldLink own index (T k).1 (T k).2.1 (T k).2.2.1).before args s = true) (hdg : decode cc pc = .ok (.putfield index, 3))
    (kk : ∀ (H1 : Heap) (locs1 : List Loc), HS X A (sI h i k v) s H1 locs1 → W p l e R s m args below meth c H1 locs1 cells slots Q (F0 m (pc + 3) ls rest)) : W p l e R s m args below meth c H locs cells slots Q (F0 m pc ls (.int v :: .ref (X.2.2.2 i) :: rest)) := by
  obtain ⟨hx, hb, -, hown, hts⟩ := S
  obtain ⟨h1, h2, h3, h4⟩ := hq
  refine va_put (A := A) hx hb hts hin ty0 hty hnm hown hK hH.1 (wL_D hH.2.2.1 hH.2.2.2) hH.2.1 i (wL_obj hi h1) hc k h3 hlink (fun _ z => z) hfin hd rfl rfl (by simp [h2, h3]) hdg (fun H1 locs1 hP hD hS => kk H1 locs1 ⟨?_, hS, hH.2.2⟩)
  rw [wL_set (h' := sI h i k v) (cE_put hi h1 (by omega) h4) (fun j hj => cE_other hj)] at hP
  exact hP
theorem wk_putiN (S : CallFix p m c cc nL s args Ts own) (hK : va_K (wD X) classes (tyS X) s) (hH : HS X A h s H locs) {C host : String} {T : u_T} {N ci index i k : Nat} {v : Int32} (hin : ∀ w ∈ u_ws C T N, w ∈ Ts) (ty0 : Nat → FieldType) (hty : ∀ k, k < N → parseFieldDescriptor (T k).2.2.1 = some (ty0 k)) (hnm : ∀ a, a < N → ∀ b, b < N → a ≠ b → (T a).2.1 ≠ (T b).2.1) (hi : tY i = ci) (hc : classes[ci]? = some (C, T, N)) (hq : ci < 100 ∧ nF ci = N ∧ k < N ∧ fK ci k = 0) (hfin : (T k).2.2.2 = false) (hd : parseFieldDescriptor (T k).2.2.1 = some .int) (hlink : va_Nw (.fieldLinkNest own index (T k).1 (T k).2.1 (T k).2.2.1 host) s) (hdg : decode cc pc = .ok (.putfield index, 3))
    (kk : ∀ (H1 : Heap) (locs1 : List Loc), HS X A (sI h i k v) s H1 locs1 → W p l e R s m args below meth c H1 locs1 cells slots Q (F0 m (pc + 3) ls rest)) : W p l e R s m args below meth c H locs cells slots Q (F0 m pc ls (.int v :: .ref (X.2.2.2 i) :: rest)) := by
  obtain ⟨hx, hb, -, hown, hts⟩ := S
  obtain ⟨h1, h2, h3, h4⟩ := hq
  refine va_putN (A := A) hx hb hts hin ty0 hty hnm hown hK hH.1 (wL_D hH.2.2.1 hH.2.2.2) hH.2.1 i (wL_obj hi h1) hc k h3 (va_Nw.use rfl hlink) (fun _ z => z) hfin hd rfl rfl (by simp [h2, h3]) hdg (fun H1 locs1 hP hD hS => kk H1 locs1 ⟨?_, hS, hH.2.2⟩)
  rw [wL_set (h' := sI h i k v) (cE_put hi h1 (by omega) h4) (fun j hj => cE_other hj)] at hP
  exact hP
theorem wk_putl (S : CallFix p m c cc nL s args Ts own) (hK : va_K (wD X) classes (tyS X) s) (hH : HS X A h s H locs) {C : String} {T : u_T} {N ci index i k : Nat} {v : Int64} (hin : ∀ w ∈ u_ws C T N, w ∈ Ts) (ty0 : Nat → FieldType) (hty : ∀ k, k < N → parseFieldDescriptor (T k).2.2.1 = some (ty0 k)) (hnm : ∀ a, a < N → ∀ b, b < N → a ≠ b → (T a).2.1 ≠ (T b).2.1) (hi : tY i = ci) (hc : classes[ci]? = some (C, T, N)) (hq : ci < 100 ∧ nF ci = N ∧ k < N ∧ fK ci k = 1 ∧ ∀ j, j < nF ci → j ≠ k → fK ci j ≠ 1) (hfin : (T k).2.2.2 = false) (hd : parseFieldDescriptor (T k).2.2.1 = some .long) (hlink : (Cond.fieldLink own index (T k).1 (T k).2.1 (T k).2.2.1).before args s = true) (hdg : decode cc pc = .ok (.putfield index, 3))
    (kk : ∀ (H1 : Heap) (locs1 : List Loc), HS X A (sL h i v) s H1 locs1 → W p l e R s m args below meth c H1 locs1 cells slots Q (F0 m (pc + 3) ls rest)) : W p l e R s m args below meth c H locs cells slots Q (F0 m pc ls (.long v :: .ref (X.2.2.2 i) :: rest)) := by
  obtain ⟨hx, hb, -, hown, hts⟩ := S
  obtain ⟨h1, h2, h3, h4, h5⟩ := hq
  refine va_put (A := A) hx hb hts hin ty0 hty hnm hown hK hH.1 (wL_D hH.2.2.1 hH.2.2.2) hH.2.1 i (wL_obj hi h1) hc k h3 hlink (fun _ z => z) hfin hd rfl rfl (by simp [h2, h3]) hdg (fun H1 locs1 hP hD hS => kk H1 locs1 ⟨?_, hS, hH.2.2⟩)
  rw [wL_set (h' := sL h i v) (cE_putL hi h1 (by omega) h4 h5) (fun j hj => cE_otherL hj)] at hP
  exact hP
theorem wk_iald (S : CallFix p m c cc nL s args Ts own) (hK : va_K (wD X) classes (tyS X) s) (hH : HS X A h s H locs) {i : Nat} {j : Int32} (hi : tY i = 100) (hj : okI j (lN_ i) = true) (hdg : decode cc pc = .ok (.iaload, 1))
    (kk : W p l e R s m args below meth c H locs cells slots Q (F0 m (pc + 1) ls (.int (h.1 i j.toNatClampNeg) :: rest))) : W p l e R s m args below meth c H locs cells slots Q (F0 m pc ls (.int j :: .ref (X.2.2.2 i) :: rest)) :=
  va_iald S.1 S.2.1 hK hH.1 i 0 (wL_int hi) rfl (okI_in hj) hdg kk
theorem wk_zald (S : CallFix p m c cc nL s args Ts own) (hK : va_K (wD X) classes (tyS X) s) (hH : HS X A h s H locs) {i : Nat} {j : Int32} (hi : tY i = 101) (hj : okI j (lN_ i) = true) (hdg : decode cc pc = .ok (.baload, 1))
    (kk : W p l e R s m args below meth c H locs cells slots Q (F0 m (pc + 1) ls (.int (h.1 i j.toNatClampNeg) :: rest))) : W p l e R s m args below meth c H locs cells slots Q (F0 m pc ls (.int j :: .ref (X.2.2.2 i) :: rest)) :=
  va_zald S.1 S.2.1 hK hH.1 i 1 (wL_bool hi) rfl (okI_in hj) hdg kk
theorem wk_aald (S : CallFix p m c cc nL s args Ts own) (hK : va_K (wD X) classes (tyS X) s) (hH : HS X A h s H locs) {i : Nat} {j : Int32} (hi : tY i = 102) (hj : okI j (lN_ i) = true) (hdg : decode cc pc = .ok (.aaload, 1))
    (kk : W p l e R s m args below meth c H locs cells slots Q (F0 m (pc + 1) ls (.ref (X.2.2.2 (rF i j.toNatClampNeg)) :: rest))) : W p l e R s m args below meth c H locs cells slots Q (F0 m pc ls (.int j :: .ref (X.2.2.2 i) :: rest)) :=
  va_aldq S.1 S.2.1 hK hH.1 i 2 (wL_ref hi) rfl (okI_in hj) hdg kk
theorem wk_alen (S : CallFix p m c cc nL s args Ts own) (hK : va_K (wD X) classes (tyS X) s) (hH : HS X A h s H locs) {i : Nat} (hi : tY i = 100) (hdg : decode cc pc = .ok (.arraylength, 1))
    (kk : W p l e R s m args below meth c H locs cells slots Q (F0 m (pc + 1) ls (.int (Int32.ofNat (lN_ i)) :: rest))) : W p l e R s m args below meth c H locs cells slots Q (F0 m pc ls (.ref (X.2.2.2 i) :: rest)) :=
  va_alen S.1 S.2.1 hK hH.1 i 0 (wL_int hi) (ty := .int) rfl rfl hdg kk
theorem wk_iast (S : CallFix p m c cc nL s args Ts own) (hK : va_K (wD X) classes (tyS X) s) (hH : HS X A h s H locs) {i : Nat} {j x : Int32} (hi : tY i = 100) (hj : okI j (lN_ i) = true) (hdg : decode cc pc = .ok (.iastore, 1))
    (kk : ∀ (H1 : Heap) (locs1 : List Loc), HS X A (sI h i j.toNatClampNeg x) s H1 locs1 → W p l e R s m args below meth c H1 locs1 cells slots Q (F0 m (pc + 1) ls rest)) : W p l e R s m args below meth c H locs cells slots Q (F0 m pc ls (.int x :: .int j :: .ref (X.2.2.2 i) :: rest)) := by
  refine va_iast (A := A) S.1 S.2.1 hK hH.1 (wL_D hH.2.2.1 hH.2.2.2) hH.2.1 i 0 (wL_int hi) rfl (okI_in hj) hdg (fun H1 locs1 hP hD hS => kk H1 locs1 ⟨?_, hS, hH.2.2⟩)
  rw [wL_set (h' := sI h i j.toNatClampNeg x) (cE_int hi) (fun j hj => cE_other hj)] at hP
  exact hP
theorem wk_zast (S : CallFix p m c cc nL s args Ts own) (hK : va_K (wD X) classes (tyS X) s) (hH : HS X A h s H locs) {i : Nat} {j x : Int32} (hi : tY i = 101) (hj : okI j (lN_ i) = true) (hdg : decode cc pc = .ok (.bastore, 1))
    (kk : ∀ (H1 : Heap) (locs1 : List Loc), HS X A (sI h i j.toNatClampNeg (vp_nar .boolean x)) s H1 locs1 → W p l e R s m args below meth c H1 locs1 cells slots Q (F0 m (pc + 1) ls rest)) : W p l e R s m args below meth c H locs cells slots Q (F0 m pc ls (.int x :: .int j :: .ref (X.2.2.2 i) :: rest)) := by
  refine va_zast (A := A) S.1 S.2.1 hK hH.1 (wL_D hH.2.2.1 hH.2.2.2) hH.2.1 i 1 (wL_bool hi) rfl (okI_in hj) hdg (fun H1 locs1 hP hD hS => kk H1 locs1 ⟨?_, hS, hH.2.2⟩)
  rw [wL_set (h' := sI h i j.toNatClampNeg (vp_nar .boolean x)) (cE_bool hi) (fun j hj => cE_other hj)] at hP
  exact hP
/-- System.arraycopy from place 0 to place 0 of arrays of ints -/
theorem wk_copy (S : CallFix p m c cc nL s args Ts own) (hK : va_K (wD X) classes (tyS X) s) (hH : HS X A h s H locs) {i j index : Nat} {n : Int32} (hsz : ls.size = nL) (hi : tY i = 100) (hj : tY j = 100) (hn : ¬ n < 0) (h1 : n.toNatClampNeg ≤ lN_ i) (h2 : n.toNatClampNeg ≤ lN_ j) (hlink : (Cond.methodLink own index arraycopyName).before args s = true) (hnat : (Cond.native arraycopyName).before args s = true) (hstat : (Cond.static arraycopyName).before args s = true) (hini : (Cond.initialized "java/lang/System").before args s = true) (hframes : 1 ≤ R.frames) (hlocals : (rest.map fun v => v.category).sum + (nativeFrameWords "java/lang/System" "arraycopy" 5 + 11) ≤ R.locals) (hdg : decode cc pc = .ok (.invokestatic index, 3))
    (kk : ∀ (H1 : Heap) (locs1 : List Loc), HS X A (sA h j (va_cpy (h.1 i) (h.1 j) 0 0 n.toNatClampNeg)) s H1 locs1 → W p l e R s m args below meth c H1 locs1 cells slots Q (F0 m (pc + 3) ls rest)) : W p l e R s m args below meth c H locs cells slots Q (F0 m pc ls (.int n :: .int 0 :: .ref (X.2.2.2 j) :: .int 0 :: .ref (X.2.2.2 i) :: rest)) := by
  refine va_copyi (A := A) S.1 S.2.1 (by rw [S.2.2.1, hsz]) S.2.2.2.1 hlink hnat hstat hini hK hH.1 (wL_D hH.2.2.1 hH.2.2.2) hH.2.1 i j 0 0 (wL_int hi) (wL_int hj) rfl rfl rfl (sp := 0) (dp := 0) (by decide) (by decide) hn (by simpa using h1) (by simpa using h2) (fun _ _ => rfl) hframes hlocals hdg (fun H1 locs1 hP hD hS => kk H1 locs1 ⟨?_, hS, hH.2.2⟩)
  rw [show Int32.toNatClampNeg 0 = 0 from rfl, wL_set (h' := sA h j (va_cpy (h.1 i) (h.1 j) 0 0 n.toNatClampNeg)) (cE_int hj) (fun j hj => cE_other hj)] at hP
  exact hP
end WK
end
section
/-! calls and ends over the uniform world -/
abbrev wU (y : MethodName) (cc : ByteArray) (n : Nat) (r : Option FieldType) : List Cond := .code y cc n r :: tT
theorem wU_in {y : MethodName} {cc : ByteArray} {n : Nat} {r : Option FieldType} : ∀ w ∈ tT, w ∈ wU y cc n r := fun _ h => List.mem_cons_of_mem _ h
theorem wU_good {Ts : List Cond} (hT : ∀ w ∈ tT, w ∈ Ts) {y : MethodName} {cc : ByteArray} {n : Nat} {r : Option FieldType} (hc : Cond.code y cc n r ∈ tT) : GoodIn Ts (wU y cc n r) := by
  intro w hw
  rcases List.mem_cons.mp hw with rfl | h
  · exact ⟨hT _ hc, good_of_word (tT_good hc)⟩
  · exact ⟨hT _ h, good_of_word (tT_good h)⟩
theorem gV {Ts : List Cond} (hT : ∀ w ∈ tT, w ∈ Ts) {own C : String} {idx : Nat} {y : MethodName} {cc : ByteArray} {n : Nat} {r : Option FieldType} (h1 : Cond.methodLink own idx y ∈ tT) (h2 : Cond.instanceMethod y ∈ tT) (h3 : Cond.selects C y y ∈ tT) (h4 : Cond.initialized C ∈ tT) (h5 : Cond.code y cc n r ∈ tT) : GoodIn Ts (wsV own idx C y (wU y cc n r)) := by
  intro w hw
  unfold wsV at hw
  rcases List.mem_append.mp hw with h | h
  · simp only [List.mem_cons, List.not_mem_nil, or_false] at h
    rcases h with rfl | rfl | rfl | rfl
    · exact ⟨hT _ h1, good_of_word (tT_good h1)⟩
    · exact ⟨hT _ h2, good_of_word (tT_good h2)⟩
    · exact ⟨hT _ h3, good_of_word (tT_good h3)⟩
    · exact ⟨hT _ h4, good_of_word (tT_good h4)⟩
  · exact wU_good hT h5 w h
theorem gS {Ts : List Cond} (hT : ∀ w ∈ tT, w ∈ Ts) {own : String} {idx : Nat} {y : MethodName} {cc : ByteArray} {n : Nat} {r : Option FieldType} (h1 : Cond.methodLink own idx y ∈ tT) (h2 : Cond.static y ∈ tT) (h4 : Cond.initialized y.cls ∈ tT) (h5 : Cond.code y cc n r ∈ tT) : GoodIn Ts (va_wsS own idx y (wU y cc n r)) := by
  intro w hw
  unfold va_wsS at hw
  rcases List.mem_append.mp hw with h | h
  · simp only [List.mem_cons, List.not_mem_nil, or_false] at h
    rcases h with rfl | rfl | rfl
    · exact ⟨hT _ h1, good_of_word (tT_good h1)⟩
    · exact ⟨hT _ h2, good_of_word (tT_good h2)⟩
    · exact ⟨hT _ h4, good_of_word (tT_good h4)⟩
  · exact wU_good hT h5 w h
theorem nestW_on : ∀ w ∈ nestW, w.onTables = true := by
  intro w hw
  simp only [nestW, List.mem_cons, List.not_mem_nil, or_false] at hw
  rcases hw with rfl | rfl | rfl | rfl | rfl | rfl | rfl | rfl | rfl | rfl | rfl | rfl | rfl | rfl | rfl | rfl | rfl | rfl | rfl | rfl | rfl | rfl | rfl | rfl | rfl | rfl | rfl <;> rfl
theorem Nst_warm {s U : State} (hW : s.WarmedH U.vm) (h : Nst s) : Nst U := by
  intro w hw
  have hs := h w hw
  simp only [nestW, List.mem_cons, List.not_mem_nil, or_false] at hw
  rcases hw with rfl | rfl | rfl | rfl | rfl | rfl | rfl | rfl | rfl | rfl | rfl | rfl | rfl | rfl | rfl | rfl | rfl | rfl | rfl | rfl | rfl | rfl | rfl | rfl | rfl | rfl | rfl <;> first | exact va_Nw.warmF hW hs | exact va_Nw.warmM hW hs
abbrev cQi (X : Cx) (r0 : Int32) (h0 : Hp) : Array Value → State → Outcome → State → Prop := va_Qi (fun (r : Int32) (u : Hp) => r = r0 ∧ u = h0) (fun u t => Wd X u t) (AD X)
abbrev cQl (X : Cx) (r0 : Int64) (h0 : Hp) : Array Value → State → Outcome → State → Prop := va_Ql (fun (r : Int64) (u : Hp) => r = r0 ∧ u = h0) (fun u t => Wd X u t) (AD X)
abbrev cQv (X : Cx) (h0 : Hp) : Array Value → State → Outcome → State → Prop := va_Qv (fun (u : Hp) => u = h0) (fun u t => Wd X u t) (AD X)
/-- a method's contract: from the table h with these arguments it answers r0 and leaves the table h0 -/
def Mi (l : Launch) (X : Cx) (y : MethodName) (cc : ByteArray) (n : Nat) (r : Option FieldType) (fr lo : Nat) (h : Hp) (av : List Value) (r0 : Int32) (h0 : Hp) : Prop := Met l y (wU y cc n r) ({ frames := fr, cells := 0, slots := 0, locals := lo }) (va_Pc av (Wd X h)) (cQi X r0 h0) 0 0 (AD X)
def Ml (l : Launch) (X : Cx) (y : MethodName) (cc : ByteArray) (n : Nat) (r : Option FieldType) (fr lo : Nat) (h : Hp) (av : List Value) (r0 : Int64) (h0 : Hp) : Prop := Met l y (wU y cc n r) ({ frames := fr, cells := 0, slots := 0, locals := lo }) (va_Pc av (Wd X h)) (cQl X r0 h0) 0 0 (AD X)
def Mv (l : Launch) (X : Cx) (y : MethodName) (cc : ByteArray) (n : Nat) (r : Option FieldType) (fr lo : Nat) (h : Hp) (av : List Value) (h0 : Hp) : Prop := Met l y (wU y cc n r) ({ frames := fr, cells := 0, slots := 0, locals := lo }) (va_Pc av (Wd X h)) (cQv X h0) 0 0 (AD X)
theorem Wd_blind {X : Cx} {h : Hp} {av : List Value} : FrameBlind (va_Pc av (Wd X h)) := fun a U g mk q => ⟨q.1, q.2.1, va_K.moved (u := U) (U := U.calling g mk a) (Vm.Alike.refl U.vm) q.2.2.1, fun w hw => va_Nw.same (u := U) (nestW_on w hw) (show U.vm = (U.calling g mk a).vm from rfl) (q.2.2.2 w hw)⟩
theorem Wd_pre {X : Cx} {A : Nat → Prop} {h : Hp} {s : State} {H : Heap} {locs : List Loc} {av : List Value} (hK : va_K (wD X) classes (tyS X) s) (hN : Nst s) (hH : HS X A h s H locs) : PreS s H (va_Pc av (Wd X h)) av := ⟨Wd_blind, fun U hU hW => ⟨rfl, by rw [hU]; exact hH.1, va_K.moved hW.alike hK, Nst_warm hW hN⟩⟩
theorem Wd_preV {X : Cx} {A : Nat → Prop} {h : Hp} {s : State} {H : Heap} {locs : List Loc} {b ci : Nat} {C : String} {T : u_T} {N : Nat} {As : List Value} (hK : va_K (wD X) classes (tyS X) s) (hN : Nst s) (hH : HS X A h s H locs) (hb : tY b = ci) (hc : ci < 100) (hC : classes[ci]? = some (C, T, N)) : PreV s H C (X.2.2.2 b) (va_Pc (.ref (X.2.2.2 b) :: As) (Wd X h)) As := ⟨Wd_blind, va_recv hK hH.1 hC (wL_obj hb hc), (Wd_pre hK hN hH).2⟩
section WC
variable {p : Program} {l : Launch} {e : Env} {R : Room} {s : State} {m : MethodId} {args : Array Value} {below : List Frame} {meth : Method} {c : Code} {H : Heap} {locs : List Loc} {cells slots : Nat} {Q : State → Prop} {cc : ByteArray} {pc nL : Nat} {ls : Array Slot} {rest st0 : List Value} {X : Cx} {A : Nat → Prop} {h : Hp} {Ts : List Cond} {own : String}
variable {y : MethodName} {bytes : ByteArray} {maxL index n fr lo : Nat} {ret : Option FieldType} {As : List Value}
theorem wk_callSi (S : CallFix p m c cc nL s args Ts own) (hK : va_K (wD X) classes (tyS X) s) (hN : Nst s) (hH : HS X A h s H locs) {r0 : Int32} {h0 : Hp} (hM : Mi l X y bytes maxL ret fr lo h As r0 h0) (cw : CallB R s args own index y bytes maxL ret (wU y bytes maxL ret) ({ frames := fr, cells := 0, slots := 0, locals := lo }) 0 0 n ∧ (Cond.static y).before args s = true) (hsz : ls.size = nL) (hn : As.length = n) (hst : st0 = As.reverse ++ rest) (hw : (rest.map fun v => v.category).sum ≤ 8) (hdg : decode cc pc = .ok (.invokestatic index, 3)) (hroom : cells ≤ R.cells ∧ slots ≤ R.slots)
    (kk : ∀ (H1 : Heap) (locs1 : List Loc), HS X A h0 s H1 locs1 → W p l e R s m args below meth c H1 locs1 cells slots Q (F0 m (pc + 3) ls (.int r0 :: rest))) : W p l e R s m args below meth c H locs cells slots Q (F0 m pc ls st0) := by
  subst hst
  refine va_calli (va_runS S hM cw (Wd_pre hK hN hH) rfl hn hsz rfl (lv_room hw) hdg hroom) hH.2.1 (fun q _ z => hH.2.2.2 q z) (fun q z => hH.2.2.2 q z) (fun r u t H1 locs1 ht hvm hp hB hz hk hS => ?_)
  obtain ⟨rfl, rfl⟩ := hp
  have hP := hB.1
  rw [ht] at hP
  exact kk H1 locs1 ⟨hP, hS, hH.2.2⟩
theorem wk_callSl (S : CallFix p m c cc nL s args Ts own) (hK : va_K (wD X) classes (tyS X) s) (hN : Nst s) (hH : HS X A h s H locs) {r0 : Int64} {h0 : Hp} (hM : Ml l X y bytes maxL ret fr lo h As r0 h0) (cw : CallB R s args own index y bytes maxL ret (wU y bytes maxL ret) ({ frames := fr, cells := 0, slots := 0, locals := lo }) 0 0 n ∧ (Cond.static y).before args s = true) (hsz : ls.size = nL) (hn : As.length = n) (hst : st0 = As.reverse ++ rest) (hw : (rest.map fun v => v.category).sum ≤ 8) (hdg : decode cc pc = .ok (.invokestatic index, 3)) (hroom : cells ≤ R.cells ∧ slots ≤ R.slots)
    (kk : ∀ (H1 : Heap) (locs1 : List Loc), HS X A h0 s H1 locs1 → W p l e R s m args below meth c H1 locs1 cells slots Q (F0 m (pc + 3) ls (.long r0 :: rest))) : W p l e R s m args below meth c H locs cells slots Q (F0 m pc ls st0) := by
  subst hst
  refine va_calll (va_runS S hM cw (Wd_pre hK hN hH) rfl hn hsz rfl (lv_room hw) hdg hroom) hH.2.1 (fun q _ z => hH.2.2.2 q z) (fun q z => hH.2.2.2 q z) (fun r u t H1 locs1 ht hvm hp hB hz hk hS => ?_)
  obtain ⟨rfl, rfl⟩ := hp
  have hP := hB.1
  rw [ht] at hP
  exact kk H1 locs1 ⟨hP, hS, hH.2.2⟩
theorem wk_callSv (S : CallFix p m c cc nL s args Ts own) (hK : va_K (wD X) classes (tyS X) s) (hN : Nst s) (hH : HS X A h s H locs) {h0 : Hp} (hM : Mv l X y bytes maxL ret fr lo h As h0) (cw : CallB R s args own index y bytes maxL ret (wU y bytes maxL ret) ({ frames := fr, cells := 0, slots := 0, locals := lo }) 0 0 n ∧ (Cond.static y).before args s = true) (hsz : ls.size = nL) (hn : As.length = n) (hst : st0 = As.reverse ++ rest) (hw : (rest.map fun v => v.category).sum ≤ 8) (hdg : decode cc pc = .ok (.invokestatic index, 3)) (hroom : cells ≤ R.cells ∧ slots ≤ R.slots)
    (kk : ∀ (H1 : Heap) (locs1 : List Loc), HS X A h0 s H1 locs1 → W p l e R s m args below meth c H1 locs1 cells slots Q (F0 m (pc + 3) ls rest)) : W p l e R s m args below meth c H locs cells slots Q (F0 m pc ls st0) := by
  subst hst
  refine va_callv (va_runS S hM cw (Wd_pre hK hN hH) rfl hn hsz rfl (lv_room hw) hdg hroom) hH.2.1 (fun q _ z => hH.2.2.2 q z) (fun q z => hH.2.2.2 q z) (fun u t H1 locs1 ht hvm hp hB hz hk hS => ?_)
  obtain rfl := hp
  have hP := hB.1
  rw [ht] at hP
  exact kk H1 locs1 ⟨hP, hS, hH.2.2⟩
theorem wk_callSNi (S : CallFix p m c cc nL s args Ts own) (hK : va_K (wD X) classes (tyS X) s) (hN : Nst s) (hH : HS X A h s H locs) {r0 : Int32} {h0 : Hp} {host : String} (hM : Mi l X y bytes maxL ret fr lo h As r0 h0) (cw : va_CN R s args own index y host bytes maxL ret (wU y bytes maxL ret) ({ frames := fr, cells := 0, slots := 0, locals := lo }) 0 0 n ∧ (Cond.static y).before args s = true ∧ True) (hsz : ls.size = nL) (hn : As.length = n) (hst : st0 = As.reverse ++ rest) (hw : (rest.map fun v => v.category).sum ≤ 8) (hdg : decode cc pc = .ok (.invokestatic index, 3)) (hroom : cells ≤ R.cells ∧ slots ≤ R.slots)
    (kk : ∀ (H1 : Heap) (locs1 : List Loc), HS X A h0 s H1 locs1 → W p l e R s m args below meth c H1 locs1 cells slots Q (F0 m (pc + 3) ls (.int r0 :: rest))) : W p l e R s m args below meth c H locs cells slots Q (F0 m pc ls st0) := by
  subst hst
  refine va_calli (va_runSN S hM cw (Wd_pre hK hN hH) rfl hn hsz rfl (lv_room hw) hdg hroom) hH.2.1 (fun q _ z => hH.2.2.2 q z) (fun q z => hH.2.2.2 q z) (fun r u t H1 locs1 ht hvm hp hB hz hk hS => ?_)
  obtain ⟨rfl, rfl⟩ := hp
  have hP := hB.1
  rw [ht] at hP
  exact kk H1 locs1 ⟨hP, hS, hH.2.2⟩
theorem wk_callVi (S : CallFix p m c cc nL s args Ts own) (hK : va_K (wD X) classes (tyS X) s) (hN : Nst s) (hH : HS X A h s H locs) {r0 : Int32} {h0 : Hp} {b ci : Nat} {C : String} {T : u_T} {N : Nat} (hb : tY b = ci) (hc : ci < 100) (hC : classes[ci]? = some (C, T, N)) (hM : Mi l X y bytes maxL ret fr lo h (.ref (X.2.2.2 b) :: As) r0 h0) (cw : CallW R s args own C index y bytes maxL ret (wU y bytes maxL ret) ({ frames := fr, cells := 0, slots := 0, locals := lo }) 0 0 n) (hsz : ls.size = nL) (hn : As.length = n) (hst : st0 = As.reverse ++ .ref (X.2.2.2 b) :: rest) (hw : (rest.map fun v => v.category).sum ≤ 8) (hdg : decode cc pc = .ok (.invokevirtual index, 3)) (hroom : cells ≤ R.cells ∧ slots ≤ R.slots)
    (kk : ∀ (H1 : Heap) (locs1 : List Loc), HS X A h0 s H1 locs1 → W p l e R s m args below meth c H1 locs1 cells slots Q (F0 m (pc + 3) ls (.int r0 :: rest))) : W p l e R s m args below meth c H locs cells slots Q (F0 m pc ls st0) := by
  subst hst
  refine va_calli (va_runV S hM cw (Wd_preV hK hN hH hb hc hC) rfl hn hsz rfl (lv_room hw) hdg hroom) hH.2.1 (fun q _ z => hH.2.2.2 q z) (fun q z => hH.2.2.2 q z) (fun r u t H1 locs1 ht hvm hp hB hz hk hS => ?_)
  obtain ⟨rfl, rfl⟩ := hp
  have hP := hB.1
  rw [ht] at hP
  exact kk H1 locs1 ⟨hP, hS, hH.2.2⟩
theorem wk_callVl (S : CallFix p m c cc nL s args Ts own) (hK : va_K (wD X) classes (tyS X) s) (hN : Nst s) (hH : HS X A h s H locs) {r0 : Int64} {h0 : Hp} {b ci : Nat} {C : String} {T : u_T} {N : Nat} (hb : tY b = ci) (hc : ci < 100) (hC : classes[ci]? = some (C, T, N)) (hM : Ml l X y bytes maxL ret fr lo h (.ref (X.2.2.2 b) :: As) r0 h0) (cw : CallW R s args own C index y bytes maxL ret (wU y bytes maxL ret) ({ frames := fr, cells := 0, slots := 0, locals := lo }) 0 0 n) (hsz : ls.size = nL) (hn : As.length = n) (hst : st0 = As.reverse ++ .ref (X.2.2.2 b) :: rest) (hw : (rest.map fun v => v.category).sum ≤ 8) (hdg : decode cc pc = .ok (.invokevirtual index, 3)) (hroom : cells ≤ R.cells ∧ slots ≤ R.slots)
    (kk : ∀ (H1 : Heap) (locs1 : List Loc), HS X A h0 s H1 locs1 → W p l e R s m args below meth c H1 locs1 cells slots Q (F0 m (pc + 3) ls (.long r0 :: rest))) : W p l e R s m args below meth c H locs cells slots Q (F0 m pc ls st0) := by
  subst hst
  refine va_calll (va_runV S hM cw (Wd_preV hK hN hH hb hc hC) rfl hn hsz rfl (lv_room hw) hdg hroom) hH.2.1 (fun q _ z => hH.2.2.2 q z) (fun q z => hH.2.2.2 q z) (fun r u t H1 locs1 ht hvm hp hB hz hk hS => ?_)
  obtain ⟨rfl, rfl⟩ := hp
  have hP := hB.1
  rw [ht] at hP
  exact kk H1 locs1 ⟨hP, hS, hH.2.2⟩
theorem wk_callVv (S : CallFix p m c cc nL s args Ts own) (hK : va_K (wD X) classes (tyS X) s) (hN : Nst s) (hH : HS X A h s H locs) {h0 : Hp} {b ci : Nat} {C : String} {T : u_T} {N : Nat} (hb : tY b = ci) (hc : ci < 100) (hC : classes[ci]? = some (C, T, N)) (hM : Mv l X y bytes maxL ret fr lo h (.ref (X.2.2.2 b) :: As) h0) (cw : CallW R s args own C index y bytes maxL ret (wU y bytes maxL ret) ({ frames := fr, cells := 0, slots := 0, locals := lo }) 0 0 n) (hsz : ls.size = nL) (hn : As.length = n) (hst : st0 = As.reverse ++ .ref (X.2.2.2 b) :: rest) (hw : (rest.map fun v => v.category).sum ≤ 8) (hdg : decode cc pc = .ok (.invokevirtual index, 3)) (hroom : cells ≤ R.cells ∧ slots ≤ R.slots)
    (kk : ∀ (H1 : Heap) (locs1 : List Loc), HS X A h0 s H1 locs1 → W p l e R s m args below meth c H1 locs1 cells slots Q (F0 m (pc + 3) ls rest)) : W p l e R s m args below meth c H locs cells slots Q (F0 m pc ls st0) := by
  subst hst
  refine va_callv (va_runV S hM cw (Wd_preV hK hN hH hb hc hC) rfl hn hsz rfl (lv_room hw) hdg hroom) hH.2.1 (fun q _ z => hH.2.2.2 q z) (fun q z => hH.2.2.2 q z) (fun u t H1 locs1 ht hvm hp hB hz hk hS => ?_)
  obtain rfl := hp
  have hP := hB.1
  rw [ht] at hP
  exact kk H1 locs1 ⟨hP, hS, hH.2.2⟩
theorem wk_iret (S : CallFix p m c cc nL s args Ts own) (hr : meth.sig.returnType = some .int) (hlk : meth.locks = false) (hK : va_K (wD X) classes (tyS X) s) (hN : Nst s) (hH : HS X (AD X) h s H locs) {v r0 : Int32} {h0 : Hp} (hf : some (v, h) = some (r0, h0)) (hdg : decode cc pc = .ok (.ireturn, 1)) : W p l e R s m args below meth c H locs 0 0 (MQ below (cQi X r0 h0) args s 0 0 (AD X)) (F0 m pc ls [.int v]) := by
  cases hf
  exact W.iret S.1 S.2.1 hr (fun t ht hW => ⟨⟨v, h, rfl, ⟨rfl, rfl⟩, by rw [ht]; exact hH.1, va_K.moved hW.alike hK, Nst_warm hW hN⟩, hH.2.1.F ht⟩) hH.2.1.2.2 hdg hlk
theorem wk_zret (S : CallFix p m c cc nL s args Ts own) (hr : meth.sig.returnType = some .boolean) (hlk : meth.locks = false) (hK : va_K (wD X) classes (tyS X) s) (hN : Nst s) (hH : HS X (AD X) h s H locs) {v r0 : Int32} {h0 : Hp} (hz : narrow .boolean (.int v) = .int v) (hf : some (v, h) = some (r0, h0)) (hdg : decode cc pc = .ok (.ireturn, 1)) : W p l e R s m args below meth c H locs 0 0 (MQ below (cQi X r0 h0) args s 0 0 (AD X)) (F0 m pc ls [.int v]) := by
  cases hf
  exact W.zret S.1 S.2.1 hr hz (fun t ht hW => ⟨⟨v, h, rfl, ⟨rfl, rfl⟩, by rw [ht]; exact hH.1, va_K.moved hW.alike hK, Nst_warm hW hN⟩, hH.2.1.F ht⟩) hH.2.1.2.2 hdg hlk
theorem wk_lret (S : CallFix p m c cc nL s args Ts own) (hr : meth.sig.returnType = some .long) (hlk : meth.locks = false) (hK : va_K (wD X) classes (tyS X) s) (hN : Nst s) (hH : HS X (AD X) h s H locs) {v r0 : Int64} {h0 : Hp} (hf : some (v, h) = some (r0, h0)) (hdg : decode cc pc = .ok (.lreturn, 1)) : W p l e R s m args below meth c H locs 0 0 (MQ below (cQl X r0 h0) args s 0 0 (AD X)) (F0 m pc ls [.long v]) := by
  cases hf
  exact W.lret S.1 S.2.1 hr (fun t ht hW => ⟨⟨v, h, rfl, ⟨rfl, rfl⟩, by rw [ht]; exact hH.1, va_K.moved hW.alike hK, Nst_warm hW hN⟩, hH.2.1.F ht⟩) hH.2.1.2.2 hdg hlk
theorem wk_vret (S : CallFix p m c cc nL s args Ts own) (hr : meth.sig.returnType = none) (hlk : meth.locks = false) (hK : va_K (wD X) classes (tyS X) s) (hN : Nst s) (hH : HS X (AD X) h s H locs) {h0 : Hp} (hf : some h = some h0) (hdg : decode cc pc = .ok (.return_, 1)) : W p l e R s m args below meth c H locs 0 0 (MQ below (cQv X h0) args s 0 0 (AD X)) (F0 m pc ls []) := by
  cases hf
  exact W.vret S.1 S.2.1 hr (fun t ht hW => ⟨⟨h, rfl, rfl, by rw [ht]; exact hH.1, va_K.moved hW.alike hK, Nst_warm hW hN⟩, hH.2.1.F ht⟩) hH.2.1.2.2 hdg hlk
end WC
/-- a place of a method's code, reached with these locals, this stack and this table: the method comes to its end -/
def BK (p : Program) (l : Launch) (e : Env) (R : Room) (s : State) (m : MethodId) (args : Array Value) (below : List Frame) (meth : Method) (c : Code) (Q : State → Prop) (X : Cx) (nL pc : Nat) (lv : List (Nat × Value)) (st : List Value) (h : Hp) : Prop :=
  ∀ (H : Heap) (locs : List Loc) (ls : Array Slot), lv_has ls nL lv → HS X (AD X) h s H locs → W p l e R s m args below meth c H locs 0 0 Q (F0 m pc ls st)
/-- a method's body from its entry -/
def BD (l : Launch) (X : Cx) (cc : ByteArray) (n : Nat) (r : Option FieldType) (fr lo : Nat) (h : Hp) (av : List Value) (own : String) (y : MethodName) (Qc : Array Value → State → Outcome → State → Prop) : Prop :=
  ∀ (p : Program) (e : Env) (s : State) (m : MethodId) (args : Array Value) (below : List Frame) (meth : Method) (c : Code), CallFix p m c cc n s args (wU y cc n r) own → meth.sig.returnType = r → meth.locks = false → va_K (wD X) classes (tyS X) s → Nst s → BK p l e ({ frames := fr, cells := 0, slots := 0, locals := lo }) s m args below meth c (MQ below Qc args s 0 0 (AD X)) X n 0 (lv_args 0 av) [] h
theorem BD_of {l : Launch} {X : Cx} (hI : Inj X) {y : MethodName} {cc : ByteArray} {n : Nat} {r : Option FieldType} {fr lo : Nat} {h : Hp} {av : List Value} {own : String} {Qc : Array Value → State → Outcome → State → Prop} (ho : y.cls = own) (hy : plainName y.cls = true) (hlen : (lg_sl av).length ≤ n) (body : BD l X cc n r fr lo h av own y Qc) : Met l y (wU y cc n r) ({ frames := fr, cells := 0, slots := 0, locals := lo }) (va_Pc av (Wd X h)) Qc 0 0 (AD X) := by
  refine Met.ofW (cc := cc) (maxL := n) (ret := r) hy rfl ?_
  intro p e s m args below meth c s₁ B hml hv
  obtain ⟨rfl, hP, hK, hN⟩ := hv
  have hown : s.vm.findClass own = some m.cls := by rw [← ho]; exact findClass_of_methodNamed B.named
  have hl := lv_entry av (n := n) hlen
  rw [lg_entry_eq]
  exact body p e s m _ below meth c ⟨B.exec, B.bytes, hml, hown, atoms_spec (ws := wU y cc n r) B.pre⟩ B.returns B.notSynchronized hK hN s.heap [] _ hl ⟨hP, va_S.rf, hI, fun _ z => z⟩
def bnd {α β : Type} (a : Option (α × Hp)) (f : α → Hp → Option β) : Option β := match a with
  | none => none
  | some q => f q.1 q.2
theorem bnd_ok {α β : Type} {a : Option (α × Hp)} {f : α → Hp → Option β} {r : β} (h : bnd a f = some r) : ∃ v h1, a = some (v, h1) ∧ f v h1 = some r := by
  cases a with
  | none => cases h
  | some q => exact ⟨q.1, q.2, rfl, h⟩
theorem ite_t {c : Prop} {_ : Decidable c} {α : Type} {a b r : α} (hc : c) (h : (if c then a else b) = r) : a = r := by rw [if_pos hc] at h; exact h
theorem ite_f {c : Prop} {_ : Decidable c} {α : Type} {a b r : α} (hc : ¬ c) (h : (if c then a else b) = r) : b = r := by rw [if_neg hc] at h; exact h
end
section
def FU : Nat := 1000
def fct : Nat → Int32 := fun j => ([1, 1, 2, 6, 24] : List Int32).getD j 0
theorem tr_of {c k t : Nat} (hc : c < 200) (h : ∀ i, i < 59 → tY i = c → tY (rF i k) = t) {i : Nat} (hi : tY i = c) : tY (rF i k) = t := h i (tY_lt hi hc) hi
theorem j_X0 {y : MethodName} {cc : ByteArray} {n : Nat} {r : Option FieldType} : ∀ w ∈ wsX00, w ∈ wU y cc n r := fun w q => wU_in w (i_X0 w q)
theorem hq_0_0 : 0 < 100 ∧ nF 0 = 6 ∧ 0 < 6 ∧ fK 0 0 = 2 := by decide
theorem tr_0_0 {i : Nat} (h : tY i = 0) : tY (rF i 0) = 100 := tr_of (by decide) (by decide +kernel) h
theorem hq_0_1 : 0 < 100 ∧ nF 0 = 6 ∧ 1 < 6 ∧ fK 0 1 = 2 := by decide
theorem tr_0_1 {i : Nat} (h : tY i = 0) : tY (rF i 1) = 100 := tr_of (by decide) (by decide +kernel) h
theorem hq_0_2 : 0 < 100 ∧ nF 0 = 6 ∧ 2 < 6 ∧ fK 0 2 = 2 := by decide
theorem tr_0_2 {i : Nat} (h : tY i = 0) : tY (rF i 2) = 100 := tr_of (by decide) (by decide +kernel) h
theorem hq_0_3 : 0 < 100 ∧ nF 0 = 6 ∧ 3 < 6 ∧ fK 0 3 = 2 := by decide
theorem tr_0_3 {i : Nat} (h : tY i = 0) : tY (rF i 3) = 100 := tr_of (by decide) (by decide +kernel) h
theorem hq_0_4 : 0 < 100 ∧ nF 0 = 6 ∧ 4 < 6 ∧ fK 0 4 = 0 := by decide
theorem hd_0_4 : parseFieldDescriptor (TX0 4).2.2.1 = some .int := by decide +kernel
theorem hq_0_5 : 0 < 100 ∧ nF 0 = 6 ∧ 5 < 6 ∧ fK 0 5 = 0 := by decide
theorem hd_0_5 : parseFieldDescriptor (TX0 5).2.2.1 = some .int := by decide +kernel
theorem j_X1 {y : MethodName} {cc : ByteArray} {n : Nat} {r : Option FieldType} : ∀ w ∈ wsX10, w ∈ wU y cc n r := fun w q => wU_in w (i_X1 w q)
theorem hq_1_0 : 1 < 100 ∧ nF 1 = 5 ∧ 0 < 5 ∧ fK 1 0 = 2 := by decide
theorem tr_1_0 {i : Nat} (h : tY i = 1) : tY (rF i 0) = 100 := tr_of (by decide) (by decide +kernel) h
theorem hq_1_1 : 1 < 100 ∧ nF 1 = 5 ∧ 1 < 5 ∧ fK 1 1 = 2 := by decide
theorem tr_1_1 {i : Nat} (h : tY i = 1) : tY (rF i 1) = 100 := tr_of (by decide) (by decide +kernel) h
theorem hq_1_2 : 1 < 100 ∧ nF 1 = 5 ∧ 2 < 5 ∧ fK 1 2 = 2 := by decide
theorem tr_1_2 {i : Nat} (h : tY i = 1) : tY (rF i 2) = 100 := tr_of (by decide) (by decide +kernel) h
theorem hq_1_3 : 1 < 100 ∧ nF 1 = 5 ∧ 3 < 5 ∧ fK 1 3 = 2 := by decide
theorem tr_1_3 {i : Nat} (h : tY i = 1) : tY (rF i 3) = 101 := tr_of (by decide) (by decide +kernel) h
theorem hq_1_4 : 1 < 100 ∧ nF 1 = 5 ∧ 4 < 5 ∧ fK 1 4 = 0 := by decide
theorem hd_1_4 : parseFieldDescriptor (TX1 4).2.2.1 = some .int := by decide +kernel
theorem j_X2 {y : MethodName} {cc : ByteArray} {n : Nat} {r : Option FieldType} : ∀ w ∈ wsX20, w ∈ wU y cc n r := fun w q => wU_in w (i_X2 w q)
theorem hq_2_0 : 2 < 100 ∧ nF 2 = 4 ∧ 0 < 4 ∧ fK 2 0 = 2 := by decide
theorem tr_2_0 {i : Nat} (h : tY i = 2) : tY (rF i 0) = 100 := tr_of (by decide) (by decide +kernel) h
theorem hq_2_1 : 2 < 100 ∧ nF 2 = 4 ∧ 1 < 4 ∧ fK 2 1 = 2 := by decide
theorem tr_2_1 {i : Nat} (h : tY i = 2) : tY (rF i 1) = 100 := tr_of (by decide) (by decide +kernel) h
theorem hq_2_2 : 2 < 100 ∧ nF 2 = 4 ∧ 2 < 4 ∧ fK 2 2 = 0 := by decide
theorem hd_2_2 : parseFieldDescriptor (TX2 2).2.2.1 = some .int := by decide +kernel
theorem hq_2_3 : 2 < 100 ∧ nF 2 = 4 ∧ 3 < 4 ∧ fK 2 3 = 0 := by decide
theorem hd_2_3 : parseFieldDescriptor (TX2 3).2.2.1 = some .int := by decide +kernel
theorem j_X3 {y : MethodName} {cc : ByteArray} {n : Nat} {r : Option FieldType} : ∀ w ∈ wsX30, w ∈ wU y cc n r := fun w q => wU_in w (i_X3 w q)
theorem hq_3_0 : 3 < 100 ∧ nF 3 = 13 ∧ 0 < 13 ∧ fK 3 0 = 2 := by decide
theorem tr_3_0 {i : Nat} (h : tY i = 3) : tY (rF i 0) = 100 := tr_of (by decide) (by decide +kernel) h
theorem hq_3_1 : 3 < 100 ∧ nF 3 = 13 ∧ 1 < 13 ∧ fK 3 1 = 0 := by decide
theorem hd_3_1 : parseFieldDescriptor (TX3 1).2.2.1 = some .int := by decide +kernel
theorem hq_3_2 : 3 < 100 ∧ nF 3 = 13 ∧ 2 < 13 ∧ fK 3 2 = 2 := by decide
theorem tr_3_2 {i : Nat} (h : tY i = 3) : tY (rF i 2) = 100 := tr_of (by decide) (by decide +kernel) h
theorem hq_3_3 : 3 < 100 ∧ nF 3 = 13 ∧ 3 < 13 ∧ fK 3 3 = 2 := by decide
theorem tr_3_3 {i : Nat} (h : tY i = 3) : tY (rF i 3) = 100 := tr_of (by decide) (by decide +kernel) h
theorem hq_3_4 : 3 < 100 ∧ nF 3 = 13 ∧ 4 < 13 ∧ fK 3 4 = 2 := by decide
theorem tr_3_4 {i : Nat} (h : tY i = 3) : tY (rF i 4) = 100 := tr_of (by decide) (by decide +kernel) h
theorem hq_3_5 : 3 < 100 ∧ nF 3 = 13 ∧ 5 < 13 ∧ fK 3 5 = 0 := by decide
theorem hd_3_5 : parseFieldDescriptor (TX3 5).2.2.1 = some .int := by decide +kernel
theorem hq_3_6 : 3 < 100 ∧ nF 3 = 13 ∧ 6 < 13 ∧ fK 3 6 = 0 := by decide
theorem hd_3_6 : parseFieldDescriptor (TX3 6).2.2.1 = some .int := by decide +kernel
theorem hq_3_7 : 3 < 100 ∧ nF 3 = 13 ∧ 7 < 13 ∧ fK 3 7 = 0 := by decide
theorem hd_3_7 : parseFieldDescriptor (TX3 7).2.2.1 = some .int := by decide +kernel
theorem hq_3_8 : 3 < 100 ∧ nF 3 = 13 ∧ 8 < 13 ∧ fK 3 8 = 0 := by decide
theorem hd_3_8 : parseFieldDescriptor (TX3 8).2.2.1 = some .int := by decide +kernel
theorem hq_3_9 : 3 < 100 ∧ nF 3 = 13 ∧ 9 < 13 ∧ fK 3 9 = 0 := by decide
theorem hd_3_9 : parseFieldDescriptor (TX3 9).2.2.1 = some .int := by decide +kernel
theorem hq_3_10 : 3 < 100 ∧ nF 3 = 13 ∧ 10 < 13 ∧ fK 3 10 = 0 := by decide
theorem hd_3_10 : parseFieldDescriptor (TX3 10).2.2.1 = some .int := by decide +kernel
theorem hq_3_11 : 3 < 100 ∧ nF 3 = 13 ∧ 11 < 13 ∧ fK 3 11 = 0 := by decide
theorem hd_3_11 : parseFieldDescriptor (TX3 11).2.2.1 = some .int := by decide +kernel
theorem hq_3_12 : 3 < 100 ∧ nF 3 = 13 ∧ 12 < 13 ∧ fK 3 12 = 0 := by decide
theorem hd_3_12 : parseFieldDescriptor (TX3 12).2.2.1 = some .int := by decide +kernel
theorem j_X4 {y : MethodName} {cc : ByteArray} {n : Nat} {r : Option FieldType} : ∀ w ∈ wsX40, w ∈ wU y cc n r := fun w q => wU_in w (i_X4 w q)
theorem hq_4_0 : 4 < 100 ∧ nF 4 = 6 ∧ 0 < 6 ∧ fK 4 0 = 2 := by decide
theorem tr_4_0 {i : Nat} (h : tY i = 4) : tY (rF i 0) = 2 := tr_of (by decide) (by decide +kernel) h
theorem hq_4_1 : 4 < 100 ∧ nF 4 = 6 ∧ 1 < 6 ∧ fK 4 1 = 2 := by decide
theorem tr_4_1 {i : Nat} (h : tY i = 4) : tY (rF i 1) = 100 := tr_of (by decide) (by decide +kernel) h
theorem hq_4_2 : 4 < 100 ∧ nF 4 = 6 ∧ 2 < 6 ∧ fK 4 2 = 2 := by decide
theorem tr_4_2 {i : Nat} (h : tY i = 4) : tY (rF i 2) = 100 := tr_of (by decide) (by decide +kernel) h
theorem hq_4_3 : 4 < 100 ∧ nF 4 = 6 ∧ 3 < 6 ∧ fK 4 3 = 2 := by decide
theorem tr_4_3 {i : Nat} (h : tY i = 4) : tY (rF i 3) = 100 := tr_of (by decide) (by decide +kernel) h
theorem hq_4_4 : 4 < 100 ∧ nF 4 = 6 ∧ 4 < 6 ∧ fK 4 4 = 2 := by decide
theorem tr_4_4 {i : Nat} (h : tY i = 4) : tY (rF i 4) = 100 := tr_of (by decide) (by decide +kernel) h
theorem hq_4_5 : 4 < 100 ∧ nF 4 = 6 ∧ 5 < 6 ∧ fK 4 5 = 0 := by decide
theorem hd_4_5 : parseFieldDescriptor (TX4 5).2.2.1 = some .int := by decide +kernel
theorem j_X6 {y : MethodName} {cc : ByteArray} {n : Nat} {r : Option FieldType} : ∀ w ∈ wsX60, w ∈ wU y cc n r := fun w q => wU_in w (i_X6 w q)
theorem hq_5_0 : 5 < 100 ∧ nF 5 = 9 ∧ 0 < 9 ∧ fK 5 0 = 2 := by decide
theorem tr_5_0 {i : Nat} (h : tY i = 5) : tY (rF i 0) = 3 := tr_of (by decide) (by decide +kernel) h
theorem hq_5_1 : 5 < 100 ∧ nF 5 = 9 ∧ 1 < 9 ∧ fK 5 1 = 2 := by decide
theorem tr_5_1 {i : Nat} (h : tY i = 5) : tY (rF i 1) = 2 := tr_of (by decide) (by decide +kernel) h
theorem hq_5_2 : 5 < 100 ∧ nF 5 = 9 ∧ 2 < 9 ∧ fK 5 2 = 2 := by decide
theorem tr_5_2 {i : Nat} (h : tY i = 5) : tY (rF i 2) = 4 := tr_of (by decide) (by decide +kernel) h
theorem hq_5_3 : 5 < 100 ∧ nF 5 = 9 ∧ 3 < 9 ∧ fK 5 3 = 2 := by decide
theorem tr_5_3 {i : Nat} (h : tY i = 5) : tY (rF i 3) = 4 := tr_of (by decide) (by decide +kernel) h
theorem hq_5_4 : 5 < 100 ∧ nF 5 = 9 ∧ 4 < 9 ∧ fK 5 4 = 2 := by decide
theorem tr_5_4 {i : Nat} (h : tY i = 5) : tY (rF i 4) = 102 := tr_of (by decide) (by decide +kernel) h
theorem hq_5_5 : 5 < 100 ∧ nF 5 = 9 ∧ 5 < 9 ∧ fK 5 5 = 2 := by decide
theorem tr_5_5 {i : Nat} (h : tY i = 5) : tY (rF i 5) = 101 := tr_of (by decide) (by decide +kernel) h
theorem hq_5_6 : 5 < 100 ∧ nF 5 = 9 ∧ 6 < 9 ∧ fK 5 6 = 2 := by decide
theorem tr_5_6 {i : Nat} (h : tY i = 5) : tY (rF i 6) = 0 := tr_of (by decide) (by decide +kernel) h
theorem hq_5_7 : 5 < 100 ∧ nF 5 = 9 ∧ 7 < 9 ∧ fK 5 7 = 2 := by decide
theorem tr_5_7 {i : Nat} (h : tY i = 5) : tY (rF i 7) = 1 := tr_of (by decide) (by decide +kernel) h
theorem hq_5_8 : 5 < 100 ∧ nF 5 = 9 ∧ 8 < 9 ∧ fK 5 8 = 1 := by decide
theorem hq_5_8l : 5 < 100 ∧ nF 5 = 9 ∧ 8 < 9 ∧ fK 5 8 = 1 ∧ ∀ j, j < nF 5 → j ≠ 8 → fK 5 j ≠ 1 := by decide
theorem hd_5_8 : parseFieldDescriptor (TX6 8).2.2.1 = some .long := by decide +kernel
theorem j_X7 {y : MethodName} {cc : ByteArray} {n : Nat} {r : Option FieldType} : ∀ w ∈ wsX70, w ∈ wU y cc n r := fun w q => wU_in w (i_X7 w q)
theorem hq_6_0 : 6 < 100 ∧ nF 6 = 30 ∧ 0 < 30 ∧ fK 6 0 = 2 := by decide
theorem tr_6_0 {i : Nat} (h : tY i = 6) : tY (rF i 0) = 100 := tr_of (by decide) (by decide +kernel) h
theorem hq_6_1 : 6 < 100 ∧ nF 6 = 30 ∧ 1 < 30 ∧ fK 6 1 = 0 := by decide
theorem hd_6_1 : parseFieldDescriptor (TX7 1).2.2.1 = some .int := by decide +kernel
theorem hq_6_2 : 6 < 100 ∧ nF 6 = 30 ∧ 2 < 30 ∧ fK 6 2 = 2 := by decide
theorem tr_6_2 {i : Nat} (h : tY i = 6) : tY (rF i 2) = 100 := tr_of (by decide) (by decide +kernel) h
theorem hq_6_3 : 6 < 100 ∧ nF 6 = 30 ∧ 3 < 30 ∧ fK 6 3 = 2 := by decide
theorem tr_6_3 {i : Nat} (h : tY i = 6) : tY (rF i 3) = 100 := tr_of (by decide) (by decide +kernel) h
theorem hq_6_4 : 6 < 100 ∧ nF 6 = 30 ∧ 4 < 30 ∧ fK 6 4 = 2 := by decide
theorem tr_6_4 {i : Nat} (h : tY i = 6) : tY (rF i 4) = 100 := tr_of (by decide) (by decide +kernel) h
theorem hq_6_5 : 6 < 100 ∧ nF 6 = 30 ∧ 5 < 30 ∧ fK 6 5 = 0 := by decide
theorem hd_6_5 : parseFieldDescriptor (TX7 5).2.2.1 = some .int := by decide +kernel
theorem hq_6_6 : 6 < 100 ∧ nF 6 = 30 ∧ 6 < 30 ∧ fK 6 6 = 0 := by decide
theorem hd_6_6 : parseFieldDescriptor (TX7 6).2.2.1 = some .int := by decide +kernel
theorem hq_6_7 : 6 < 100 ∧ nF 6 = 30 ∧ 7 < 30 ∧ fK 6 7 = 2 := by decide
theorem tr_6_7 {i : Nat} (h : tY i = 6) : tY (rF i 7) = 100 := tr_of (by decide) (by decide +kernel) h
theorem hq_6_8 : 6 < 100 ∧ nF 6 = 30 ∧ 8 < 30 ∧ fK 6 8 = 2 := by decide
theorem tr_6_8 {i : Nat} (h : tY i = 6) : tY (rF i 8) = 101 := tr_of (by decide) (by decide +kernel) h
theorem hq_6_9 : 6 < 100 ∧ nF 6 = 30 ∧ 9 < 30 ∧ fK 6 9 = 2 := by decide
theorem tr_6_9 {i : Nat} (h : tY i = 6) : tY (rF i 9) = 100 := tr_of (by decide) (by decide +kernel) h
theorem hq_6_10 : 6 < 100 ∧ nF 6 = 30 ∧ 10 < 30 ∧ fK 6 10 = 2 := by decide
theorem tr_6_10 {i : Nat} (h : tY i = 6) : tY (rF i 10) = 100 := tr_of (by decide) (by decide +kernel) h
theorem hq_6_11 : 6 < 100 ∧ nF 6 = 30 ∧ 11 < 30 ∧ fK 6 11 = 0 := by decide
theorem hd_6_11 : parseFieldDescriptor (TX7 11).2.2.1 = some .int := by decide +kernel
theorem hq_6_12 : 6 < 100 ∧ nF 6 = 30 ∧ 12 < 30 ∧ fK 6 12 = 0 := by decide
theorem hd_6_12 : parseFieldDescriptor (TX7 12).2.2.1 = some .int := by decide +kernel
theorem hq_6_13 : 6 < 100 ∧ nF 6 = 30 ∧ 13 < 30 ∧ fK 6 13 = 0 := by decide
theorem hd_6_13 : parseFieldDescriptor (TX7 13).2.2.1 = some .int := by decide +kernel
theorem hq_6_14 : 6 < 100 ∧ nF 6 = 30 ∧ 14 < 30 ∧ fK 6 14 = 2 := by decide
theorem tr_6_14 {i : Nat} (h : tY i = 6) : tY (rF i 14) = 100 := tr_of (by decide) (by decide +kernel) h
theorem hq_6_15 : 6 < 100 ∧ nF 6 = 30 ∧ 15 < 30 ∧ fK 6 15 = 2 := by decide
theorem tr_6_15 {i : Nat} (h : tY i = 6) : tY (rF i 15) = 100 := tr_of (by decide) (by decide +kernel) h
theorem hq_6_16 : 6 < 100 ∧ nF 6 = 30 ∧ 16 < 30 ∧ fK 6 16 = 2 := by decide
theorem tr_6_16 {i : Nat} (h : tY i = 6) : tY (rF i 16) = 100 := tr_of (by decide) (by decide +kernel) h
theorem hq_6_17 : 6 < 100 ∧ nF 6 = 30 ∧ 17 < 30 ∧ fK 6 17 = 0 := by decide
theorem hd_6_17 : parseFieldDescriptor (TX7 17).2.2.1 = some .int := by decide +kernel
theorem hq_6_18 : 6 < 100 ∧ nF 6 = 30 ∧ 18 < 30 ∧ fK 6 18 = 0 := by decide
theorem hd_6_18 : parseFieldDescriptor (TX7 18).2.2.1 = some .int := by decide +kernel
theorem hq_6_19 : 6 < 100 ∧ nF 6 = 30 ∧ 19 < 30 ∧ fK 6 19 = 0 := by decide
theorem hd_6_19 : parseFieldDescriptor (TX7 19).2.2.1 = some .int := by decide +kernel
theorem hq_6_20 : 6 < 100 ∧ nF 6 = 30 ∧ 20 < 30 ∧ fK 6 20 = 0 := by decide
theorem hd_6_20 : parseFieldDescriptor (TX7 20).2.2.1 = some .int := by decide +kernel
theorem hq_6_21 : 6 < 100 ∧ nF 6 = 30 ∧ 21 < 30 ∧ fK 6 21 = 0 := by decide
theorem hd_6_21 : parseFieldDescriptor (TX7 21).2.2.1 = some .int := by decide +kernel
theorem hq_6_22 : 6 < 100 ∧ nF 6 = 30 ∧ 22 < 30 ∧ fK 6 22 = 2 := by decide
theorem tr_6_22 {i : Nat} (h : tY i = 6) : tY (rF i 22) = 100 := tr_of (by decide) (by decide +kernel) h
theorem hq_6_23 : 6 < 100 ∧ nF 6 = 30 ∧ 23 < 30 ∧ fK 6 23 = 2 := by decide
theorem tr_6_23 {i : Nat} (h : tY i = 6) : tY (rF i 23) = 100 := tr_of (by decide) (by decide +kernel) h
theorem hq_6_24 : 6 < 100 ∧ nF 6 = 30 ∧ 24 < 30 ∧ fK 6 24 = 2 := by decide
theorem tr_6_24 {i : Nat} (h : tY i = 6) : tY (rF i 24) = 100 := tr_of (by decide) (by decide +kernel) h
theorem hq_6_25 : 6 < 100 ∧ nF 6 = 30 ∧ 25 < 30 ∧ fK 6 25 = 2 := by decide
theorem tr_6_25 {i : Nat} (h : tY i = 6) : tY (rF i 25) = 100 := tr_of (by decide) (by decide +kernel) h
theorem hq_6_26 : 6 < 100 ∧ nF 6 = 30 ∧ 26 < 30 ∧ fK 6 26 = 0 := by decide
theorem hd_6_26 : parseFieldDescriptor (TX7 26).2.2.1 = some .int := by decide +kernel
theorem hq_6_27 : 6 < 100 ∧ nF 6 = 30 ∧ 27 < 30 ∧ fK 6 27 = 1 := by decide
theorem hq_6_27l : 6 < 100 ∧ nF 6 = 30 ∧ 27 < 30 ∧ fK 6 27 = 1 ∧ ∀ j, j < nF 6 → j ≠ 27 → fK 6 j ≠ 1 := by decide
theorem hd_6_27 : parseFieldDescriptor (TX7 27).2.2.1 = some .long := by decide +kernel
theorem hq_6_28 : 6 < 100 ∧ nF 6 = 30 ∧ 28 < 30 ∧ fK 6 28 = 2 := by decide
theorem tr_6_28 {i : Nat} (h : tY i = 6) : tY (rF i 28) = 100 := tr_of (by decide) (by decide +kernel) h
theorem hq_6_29 : 6 < 100 ∧ nF 6 = 30 ∧ 29 < 30 ∧ fK 6 29 = 2 := by decide
theorem tr_6_29 {i : Nat} (h : tY i = 6) : tY (rF i 29) = 100 := tr_of (by decide) (by decide +kernel) h
theorem tr_kept {i : Nat} {j : Int32} (h : tY i = 102) (hj : okI j (lN_ i) = true) : tY (rF i j.toNatClampNeg) = 4 := by
  have h29 : i = 29 := (show ∀ i, i < 59 → tY i = 102 → i = 29 by decide +kernel) i (tY_lt h (by decide)) h
  subst h29
  have h2 : j.toNatClampNeg < 2 := Nat.not_le.mp fun q => okI_in hj (Or.inr q)
  rcases (show j.toNatClampNeg = 0 ∨ j.toNatClampNeg = 1 by omega) with q | q <;> rw [q] <;> decide
theorem hdV_X0_add : yX0_add.cls = RX0 ∧ yX0_add.cls ≠ "java/lang/invoke/MethodHandle" ∧ yX0_add.cls ≠ "java/lang/invoke/VarHandle" ∧ (parseMethodDescriptor yX0_add.desc).map (fun d => d.parameters.length) = some 4 := by decide +kernel
theorem hdV_X4_exchange : yX4_exchange.cls = RX4 ∧ yX4_exchange.cls ≠ "java/lang/invoke/MethodHandle" ∧ yX4_exchange.cls ≠ "java/lang/invoke/VarHandle" ∧ (parseMethodDescriptor yX4_exchange.desc).map (fun d => d.parameters.length) = some 2 := by decide +kernel
theorem hdV_X4_putSign : yX4_putSign.cls = RX4 ∧ yX4_putSign.cls ≠ "java/lang/invoke/MethodHandle" ∧ yX4_putSign.cls ≠ "java/lang/invoke/VarHandle" ∧ (parseMethodDescriptor yX4_putSign.desc).map (fun d => d.parameters.length) = some 3 := by decide +kernel
theorem hdV_X4_putForm : yX4_putForm.cls = RX4 ∧ yX4_putForm.cls ≠ "java/lang/invoke/MethodHandle" ∧ yX4_putForm.cls ≠ "java/lang/invoke/VarHandle" ∧ (parseMethodDescriptor yX4_putForm.desc).map (fun d => d.parameters.length) = some 3 := by decide +kernel
theorem hdV_X0_takeBackLast : yX0_takeBackLast.cls = RX0 ∧ yX0_takeBackLast.cls ≠ "java/lang/invoke/MethodHandle" ∧ yX0_takeBackLast.cls ≠ "java/lang/invoke/VarHandle" ∧ (parseMethodDescriptor yX0_takeBackLast.desc).map (fun d => d.parameters.length) = some 1 := by decide +kernel
theorem hdV_X1_add : yX1_add.cls = RX1 ∧ yX1_add.cls ≠ "java/lang/invoke/MethodHandle" ∧ yX1_add.cls ≠ "java/lang/invoke/VarHandle" ∧ (parseMethodDescriptor yX1_add.desc).map (fun d => d.parameters.length) = some 4 := by decide +kernel
theorem hdV_X2_hasEnding : yX2_hasEnding.cls = RX2 ∧ yX2_hasEnding.cls ≠ "java/lang/invoke/MethodHandle" ∧ yX2_hasEnding.cls ≠ "java/lang/invoke/VarHandle" ∧ (parseMethodDescriptor yX2_hasEnding.desc).map (fun d => d.parameters.length) = some 1 := by decide +kernel
theorem hdS_X5_join : yX5_join.cls ≠ "java/lang/invoke/MethodHandle" ∧ yX5_join.cls ≠ "java/lang/invoke/VarHandle" ∧ (parseMethodDescriptor yX5_join.desc).map (fun d => d.parameters.length) = some 2 := by decide +kernel
theorem hdV_X4_signOf : yX4_signOf.cls = RX4 ∧ yX4_signOf.cls ≠ "java/lang/invoke/MethodHandle" ∧ yX4_signOf.cls ≠ "java/lang/invoke/VarHandle" ∧ (parseMethodDescriptor yX4_signOf.desc).map (fun d => d.parameters.length) = some 2 := by decide +kernel
theorem hdS_X5_fits : yX5_fits.cls ≠ "java/lang/invoke/MethodHandle" ∧ yX5_fits.cls ≠ "java/lang/invoke/VarHandle" ∧ (parseMethodDescriptor yX5_fits.desc).map (fun d => d.parameters.length) = some 2 := by decide +kernel
theorem hdV_X4_goOver : yX4_goOver.cls = RX4 ∧ yX4_goOver.cls ≠ "java/lang/invoke/MethodHandle" ∧ yX4_goOver.cls ≠ "java/lang/invoke/VarHandle" ∧ (parseMethodDescriptor yX4_goOver.desc).map (fun d => d.parameters.length) = some 2 := by decide +kernel
theorem hdV_X4_walk : yX4_walk.cls = RX4 ∧ yX4_walk.cls ≠ "java/lang/invoke/MethodHandle" ∧ yX4_walk.cls ≠ "java/lang/invoke/VarHandle" ∧ (parseMethodDescriptor yX4_walk.desc).map (fun d => d.parameters.length) = some 2 := by decide +kernel
theorem hdS_X5_lengthOf : yX5_lengthOf.cls ≠ "java/lang/invoke/MethodHandle" ∧ yX5_lengthOf.cls ≠ "java/lang/invoke/VarHandle" ∧ (parseMethodDescriptor yX5_lengthOf.desc).map (fun d => d.parameters.length) = some 1 := by decide +kernel
theorem hdS_X5_letterAt : yX5_letterAt.cls ≠ "java/lang/invoke/MethodHandle" ∧ yX5_letterAt.cls ≠ "java/lang/invoke/VarHandle" ∧ (parseMethodDescriptor yX5_letterAt.desc).map (fun d => d.parameters.length) = some 2 := by decide +kernel
theorem hdV_X1_agreeWith : yX1_agreeWith.cls = RX1 ∧ yX1_agreeWith.cls ≠ "java/lang/invoke/MethodHandle" ∧ yX1_agreeWith.cls ≠ "java/lang/invoke/VarHandle" ∧ (parseMethodDescriptor yX1_agreeWith.desc).map (fun d => d.parameters.length) = some 3 := by decide +kernel
theorem hdV_X2_takeFrom : yX2_takeFrom.cls = RX2 ∧ yX2_takeFrom.cls ≠ "java/lang/invoke/MethodHandle" ∧ yX2_takeFrom.cls ≠ "java/lang/invoke/VarHandle" ∧ (parseMethodDescriptor yX2_takeFrom.desc).map (fun d => d.parameters.length) = some 1 := by decide +kernel
theorem hdV_X2_hasRoot : yX2_hasRoot.cls = RX2 ∧ yX2_hasRoot.cls ≠ "java/lang/invoke/MethodHandle" ∧ yX2_hasRoot.cls ≠ "java/lang/invoke/VarHandle" ∧ (parseMethodDescriptor yX2_hasRoot.desc).map (fun d => d.parameters.length) = some 1 := by decide +kernel
theorem hdV_X2_hasPair : yX2_hasPair.cls = RX2 ∧ yX2_hasPair.cls ≠ "java/lang/invoke/MethodHandle" ∧ yX2_hasPair.cls ≠ "java/lang/invoke/VarHandle" ∧ (parseMethodDescriptor yX2_hasPair.desc).map (fun d => d.parameters.length) = some 2 := by decide +kernel
theorem hdV_X2_joined : yX2_joined.cls = RX2 ∧ yX2_joined.cls ≠ "java/lang/invoke/MethodHandle" ∧ yX2_joined.cls ≠ "java/lang/invoke/VarHandle" ∧ (parseMethodDescriptor yX2_joined.desc).map (fun d => d.parameters.length) = some 2 := by decide +kernel
theorem hdV_X3_append : yX3_append.cls = RX3 ∧ yX3_append.cls ≠ "java/lang/invoke/MethodHandle" ∧ yX3_append.cls ≠ "java/lang/invoke/VarHandle" ∧ (parseMethodDescriptor yX3_append.desc).map (fun d => d.parameters.length) = some 1 := by decide +kernel
theorem hdV_X3_beginReading : yX3_beginReading.cls = RX3 ∧ yX3_beginReading.cls ≠ "java/lang/invoke/MethodHandle" ∧ yX3_beginReading.cls ≠ "java/lang/invoke/VarHandle" ∧ (parseMethodDescriptor yX3_beginReading.desc).map (fun d => d.parameters.length) = some 0 := by decide +kernel
theorem hdV_X3_isOfLetters : yX3_isOfLetters.cls = RX3 ∧ yX3_isOfLetters.cls ≠ "java/lang/invoke/MethodHandle" ∧ yX3_isOfLetters.cls ≠ "java/lang/invoke/VarHandle" ∧ (parseMethodDescriptor yX3_isOfLetters.desc).map (fun d => d.parameters.length) = some 0 := by decide +kernel
theorem hdV_X3_needsMore : yX3_needsMore.cls = RX3 ∧ yX3_needsMore.cls ≠ "java/lang/invoke/MethodHandle" ∧ yX3_needsMore.cls ≠ "java/lang/invoke/VarHandle" ∧ (parseMethodDescriptor yX3_needsMore.desc).map (fun d => d.parameters.length) = some 0 := by decide +kernel
theorem hdS_X3_isLetter : yX3_isLetter.cls ≠ "java/lang/invoke/MethodHandle" ∧ yX3_isLetter.cls ≠ "java/lang/invoke/VarHandle" ∧ (parseMethodDescriptor yX3_isLetter.desc).map (fun d => d.parameters.length) = some 1 := by decide +kernel
theorem hdS_X3_signMeant : yX3_signMeant.cls ≠ "java/lang/invoke/MethodHandle" ∧ yX3_signMeant.cls ≠ "java/lang/invoke/VarHandle" ∧ (parseMethodDescriptor yX3_signMeant.desc).map (fun d => d.parameters.length) = some 1 := by decide +kernel
theorem hdV_X3_addLetter : yX3_addLetter.cls = RX3 ∧ yX3_addLetter.cls ≠ "java/lang/invoke/MethodHandle" ∧ yX3_addLetter.cls ≠ "java/lang/invoke/VarHandle" ∧ (parseMethodDescriptor yX3_addLetter.desc).map (fun d => d.parameters.length) = some 4 := by decide +kernel
theorem hdS_X6_allowsSign : yX6_allowsSign.cls ≠ "java/lang/invoke/MethodHandle" ∧ yX6_allowsSign.cls ≠ "java/lang/invoke/VarHandle" ∧ (parseMethodDescriptor yX6_allowsSign.desc).map (fun d => d.parameters.length) = some 2 := by decide +kernel
theorem hdV_X3_addSign : yX3_addSign.cls = RX3 ∧ yX3_addSign.cls ≠ "java/lang/invoke/MethodHandle" ∧ yX3_addSign.cls ≠ "java/lang/invoke/VarHandle" ∧ (parseMethodDescriptor yX3_addSign.desc).map (fun d => d.parameters.length) = some 1 := by decide +kernel
theorem hdV_X3_goOnWith : yX3_goOnWith.cls = RX3 ∧ yX3_goOnWith.cls ≠ "java/lang/invoke/MethodHandle" ∧ yX3_goOnWith.cls ≠ "java/lang/invoke/VarHandle" ∧ (parseMethodDescriptor yX3_goOnWith.desc).map (fun d => d.parameters.length) = some 1 := by decide +kernel
theorem hdV_X3_beginPart : yX3_beginPart.cls = RX3 ∧ yX3_beginPart.cls ≠ "java/lang/invoke/MethodHandle" ∧ yX3_beginPart.cls ≠ "java/lang/invoke/VarHandle" ∧ (parseMethodDescriptor yX3_beginPart.desc).map (fun d => d.parameters.length) = some 1 := by decide +kernel
theorem hdV_X3_read : yX3_read.cls = RX3 ∧ yX3_read.cls ≠ "java/lang/invoke/MethodHandle" ∧ yX3_read.cls ≠ "java/lang/invoke/VarHandle" ∧ (parseMethodDescriptor yX3_read.desc).map (fun d => d.parameters.length) = some 0 := by decide +kernel
theorem hdV_X4_orderByNumber : yX4_orderByNumber.cls = RX4 ∧ yX4_orderByNumber.cls ≠ "java/lang/invoke/MethodHandle" ∧ yX4_orderByNumber.cls ≠ "java/lang/invoke/VarHandle" ∧ (parseMethodDescriptor yX4_orderByNumber.desc).map (fun d => d.parameters.length) = some 0 := by decide +kernel
theorem hdV_X4_beginWith : yX4_beginWith.cls = RX4 ∧ yX4_beginWith.cls ≠ "java/lang/invoke/MethodHandle" ∧ yX4_beginWith.cls ≠ "java/lang/invoke/VarHandle" ∧ (parseMethodDescriptor yX4_beginWith.desc).map (fun d => d.parameters.length) = some 1 := by decide +kernel
theorem hdV_X4_takeFrom : yX4_takeFrom.cls = RX4 ∧ yX4_takeFrom.cls ≠ "java/lang/invoke/MethodHandle" ∧ yX4_takeFrom.cls ≠ "java/lang/invoke/VarHandle" ∧ (parseMethodDescriptor yX4_takeFrom.desc).map (fun d => d.parameters.length) = some 1 := by decide +kernel
theorem hdV_X4_hasChange : yX4_hasChange.cls = RX4 ∧ yX4_hasChange.cls ≠ "java/lang/invoke/MethodHandle" ∧ yX4_hasChange.cls ≠ "java/lang/invoke/VarHandle" ∧ (parseMethodDescriptor yX4_hasChange.desc).map (fun d => d.parameters.length) = some 1 := by decide +kernel
theorem hdV_X4_allChanges : yX4_allChanges.cls = RX4 ∧ yX4_allChanges.cls ≠ "java/lang/invoke/MethodHandle" ∧ yX4_allChanges.cls ≠ "java/lang/invoke/VarHandle" ∧ (parseMethodDescriptor yX4_allChanges.desc).map (fun d => d.parameters.length) = some 0 := by decide +kernel
theorem hdV_X4_formOf : yX4_formOf.cls = RX4 ∧ yX4_formOf.cls ≠ "java/lang/invoke/MethodHandle" ∧ yX4_formOf.cls ≠ "java/lang/invoke/VarHandle" ∧ (parseMethodDescriptor yX4_formOf.desc).map (fun d => d.parameters.length) = some 2 := by decide +kernel
theorem hdV_X4_formCount : yX4_formCount.cls = RX4 ∧ yX4_formCount.cls ≠ "java/lang/invoke/MethodHandle" ∧ yX4_formCount.cls ≠ "java/lang/invoke/VarHandle" ∧ (parseMethodDescriptor yX4_formCount.desc).map (fun d => d.parameters.length) = some 0 := by decide +kernel
theorem hdV_X4_goToNextOrder : yX4_goToNextOrder.cls = RX4 ∧ yX4_goToNextOrder.cls ≠ "java/lang/invoke/MethodHandle" ∧ yX4_goToNextOrder.cls ≠ "java/lang/invoke/VarHandle" ∧ (parseMethodDescriptor yX4_goToNextOrder.desc).map (fun d => d.parameters.length) = some 0 := by decide +kernel
theorem hdV_X4_orderFigures : yX4_orderFigures.cls = RX4 ∧ yX4_orderFigures.cls ≠ "java/lang/invoke/MethodHandle" ∧ yX4_orderFigures.cls ≠ "java/lang/invoke/VarHandle" ∧ (parseMethodDescriptor yX4_orderFigures.desc).map (fun d => d.parameters.length) = some 0 := by decide +kernel
theorem hdV_X4_walkWith : yX4_walkWith.cls = RX4 ∧ yX4_walkWith.cls ≠ "java/lang/invoke/MethodHandle" ∧ yX4_walkWith.cls ≠ "java/lang/invoke/VarHandle" ∧ (parseMethodDescriptor yX4_walkWith.desc).map (fun d => d.parameters.length) = some 2 := by decide +kernel
theorem hdV_X4_makeOf : yX4_makeOf.cls = RX4 ∧ yX4_makeOf.cls ≠ "java/lang/invoke/MethodHandle" ∧ yX4_makeOf.cls ≠ "java/lang/invoke/VarHandle" ∧ (parseMethodDescriptor yX4_makeOf.desc).map (fun d => d.parameters.length) = some 2 := by decide +kernel
theorem hdV_X4_isAmongUnlike : yX4_isAmongUnlike.cls = RX4 ∧ yX4_isAmongUnlike.cls ≠ "java/lang/invoke/MethodHandle" ∧ yX4_isAmongUnlike.cls ≠ "java/lang/invoke/VarHandle" ∧ (parseMethodDescriptor yX4_isAmongUnlike.desc).map (fun d => d.parameters.length) = some 2 := by decide +kernel
theorem hdV_X4_unlikeWords : yX4_unlikeWords.cls = RX4 ∧ yX4_unlikeWords.cls ≠ "java/lang/invoke/MethodHandle" ∧ yX4_unlikeWords.cls ≠ "java/lang/invoke/VarHandle" ∧ (parseMethodDescriptor yX4_unlikeWords.desc).map (fun d => d.parameters.length) = some 1 := by decide +kernel
theorem hdV_X4_activeOver : yX4_activeOver.cls = RX4 ∧ yX4_activeOver.cls ≠ "java/lang/invoke/MethodHandle" ∧ yX4_activeOver.cls ≠ "java/lang/invoke/VarHandle" ∧ (parseMethodDescriptor yX4_activeOver.desc).map (fun d => d.parameters.length) = some 1 := by decide +kernel
theorem hdV_X4_activeChanges : yX4_activeChanges.cls = RX4 ∧ yX4_activeChanges.cls ≠ "java/lang/invoke/MethodHandle" ∧ yX4_activeChanges.cls ≠ "java/lang/invoke/VarHandle" ∧ (parseMethodDescriptor yX4_activeChanges.desc).map (fun d => d.parameters.length) = some 0 := by decide +kernel
theorem hdV_X4_exceptions : yX4_exceptions.cls = RX4 ∧ yX4_exceptions.cls ≠ "java/lang/invoke/MethodHandle" ∧ yX4_exceptions.cls ≠ "java/lang/invoke/VarHandle" ∧ (parseMethodDescriptor yX4_exceptions.desc).map (fun d => d.parameters.length) = some 0 := by decide +kernel
theorem hdV_X4_doCross : yX4_doCross.cls = RX4 ∧ yX4_doCross.cls ≠ "java/lang/invoke/MethodHandle" ∧ yX4_doCross.cls ≠ "java/lang/invoke/VarHandle" ∧ (parseMethodDescriptor yX4_doCross.desc).map (fun d => d.parameters.length) = some 2 := by decide +kernel
theorem hdS_X5_isWord : yX5_isWord.cls ≠ "java/lang/invoke/MethodHandle" ∧ yX5_isWord.cls ≠ "java/lang/invoke/VarHandle" ∧ (parseMethodDescriptor yX5_isWord.desc).map (fun d => d.parameters.length) = some 1 := by decide +kernel
theorem hdV_X6_write : yX6_write.cls = RX6 ∧ yX6_write.cls ≠ "java/lang/invoke/MethodHandle" ∧ yX6_write.cls ≠ "java/lang/invoke/VarHandle" ∧ (parseMethodDescriptor yX6_write.desc).map (fun d => d.parameters.length) = some 1 := by decide +kernel
theorem hdV_X6_wipe : yX6_wipe.cls = RX6 ∧ yX6_wipe.cls ≠ "java/lang/invoke/MethodHandle" ∧ yX6_wipe.cls ≠ "java/lang/invoke/VarHandle" ∧ (parseMethodDescriptor yX6_wipe.desc).map (fun d => d.parameters.length) = some 0 := by decide +kernel
theorem hdV_X6_fault : yX6_fault.cls = RX6 ∧ yX6_fault.cls ≠ "java/lang/invoke/MethodHandle" ∧ yX6_fault.cls ≠ "java/lang/invoke/VarHandle" ∧ (parseMethodDescriptor yX6_fault.desc).map (fun d => d.parameters.length) = some 1 := by decide +kernel
theorem hdV_X6_list : yX6_list.cls = RX6 ∧ yX6_list.cls ≠ "java/lang/invoke/MethodHandle" ∧ yX6_list.cls ≠ "java/lang/invoke/VarHandle" ∧ (parseMethodDescriptor yX6_list.desc).map (fun d => d.parameters.length) = some 0 := by decide +kernel
theorem hdV_X6_about : yX6_about.cls = RX6 ∧ yX6_about.cls ≠ "java/lang/invoke/MethodHandle" ∧ yX6_about.cls ≠ "java/lang/invoke/VarHandle" ∧ (parseMethodDescriptor yX6_about.desc).map (fun d => d.parameters.length) = some 1 := by decide +kernel
theorem hdV_X6_part : yX6_part.cls = RX6 ∧ yX6_part.cls ≠ "java/lang/invoke/MethodHandle" ∧ yX6_part.cls ≠ "java/lang/invoke/VarHandle" ∧ (parseMethodDescriptor yX6_part.desc).map (fun d => d.parameters.length) = some 2 := by decide +kernel
theorem hdS_X6_isSignPlace : yX6_isSignPlace.cls ≠ "java/lang/invoke/MethodHandle" ∧ yX6_isSignPlace.cls ≠ "java/lang/invoke/VarHandle" ∧ (parseMethodDescriptor yX6_isSignPlace.desc).map (fun d => d.parameters.length) = some 1 := by decide +kernel
theorem hdV_X6_sign : yX6_sign.cls = RX6 ∧ yX6_sign.cls ≠ "java/lang/invoke/MethodHandle" ∧ yX6_sign.cls ≠ "java/lang/invoke/VarHandle" ∧ (parseMethodDescriptor yX6_sign.desc).map (fun d => d.parameters.length) = some 2 := by decide +kernel
theorem hdV_X6_order : yX6_order.cls = RX6 ∧ yX6_order.cls ≠ "java/lang/invoke/MethodHandle" ∧ yX6_order.cls ≠ "java/lang/invoke/VarHandle" ∧ (parseMethodDescriptor yX6_order.desc).map (fun d => d.parameters.length) = some 1 := by decide +kernel
theorem hdV_X6_made : yX6_made.cls = RX6 ∧ yX6_made.cls ≠ "java/lang/invoke/MethodHandle" ∧ yX6_made.cls ≠ "java/lang/invoke/VarHandle" ∧ (parseMethodDescriptor yX6_made.desc).map (fun d => d.parameters.length) = some 2 := by decide +kernel
theorem hdV_X6_step : yX6_step.cls = RX6 ∧ yX6_step.cls ≠ "java/lang/invoke/MethodHandle" ∧ yX6_step.cls ≠ "java/lang/invoke/VarHandle" ∧ (parseMethodDescriptor yX6_step.desc).map (fun d => d.parameters.length) = some 3 := by decide +kernel
theorem hdV_X6_apart : yX6_apart.cls = RX6 ∧ yX6_apart.cls ≠ "java/lang/invoke/MethodHandle" ∧ yX6_apart.cls ≠ "java/lang/invoke/VarHandle" ∧ (parseMethodDescriptor yX6_apart.desc).map (fun d => d.parameters.length) = some 2 := by decide +kernel
theorem hdV_X6_form : yX6_form.cls = RX6 ∧ yX6_form.cls ≠ "java/lang/invoke/MethodHandle" ∧ yX6_form.cls ≠ "java/lang/invoke/VarHandle" ∧ (parseMethodDescriptor yX6_form.desc).map (fun d => d.parameters.length) = some 2 := by decide +kernel
theorem hdV_X6_swap : yX6_swap.cls = RX6 ∧ yX6_swap.cls ≠ "java/lang/invoke/MethodHandle" ∧ yX6_swap.cls ≠ "java/lang/invoke/VarHandle" ∧ (parseMethodDescriptor yX6_swap.desc).map (fun d => d.parameters.length) = some 2 := by decide +kernel
theorem hdV_X6_resign : yX6_resign.cls = RX6 ∧ yX6_resign.cls ≠ "java/lang/invoke/MethodHandle" ∧ yX6_resign.cls ≠ "java/lang/invoke/VarHandle" ∧ (parseMethodDescriptor yX6_resign.desc).map (fun d => d.parameters.length) = some 3 := by decide +kernel
theorem hdV_X6_tell : yX6_tell.cls = RX6 ∧ yX6_tell.cls ≠ "java/lang/invoke/MethodHandle" ∧ yX6_tell.cls ≠ "java/lang/invoke/VarHandle" ∧ (parseMethodDescriptor yX6_tell.desc).map (fun d => d.parameters.length) = some 3 := by decide +kernel
theorem hdV_X6_undo : yX6_undo.cls = RX6 ∧ yX6_undo.cls ≠ "java/lang/invoke/MethodHandle" ∧ yX6_undo.cls ≠ "java/lang/invoke/VarHandle" ∧ (parseMethodDescriptor yX6_undo.desc).map (fun d => d.parameters.length) = some 0 := by decide +kernel
theorem hdV_X6_cross : yX6_cross.cls = RX6 ∧ yX6_cross.cls ≠ "java/lang/invoke/MethodHandle" ∧ yX6_cross.cls ≠ "java/lang/invoke/VarHandle" ∧ (parseMethodDescriptor yX6_cross.desc).map (fun d => d.parameters.length) = some 2 := by decide +kernel
theorem hdV_X6_best : yX6_best.cls = RX6 ∧ yX6_best.cls ≠ "java/lang/invoke/MethodHandle" ∧ yX6_best.cls ≠ "java/lang/invoke/VarHandle" ∧ (parseMethodDescriptor yX6_best.desc).map (fun d => d.parameters.length) = some 1 := by decide +kernel
theorem hdS_X6_withoutLastFours : yX6_withoutLastFours.cls ≠ "java/lang/invoke/MethodHandle" ∧ yX6_withoutLastFours.cls ≠ "java/lang/invoke/VarHandle" ∧ (parseMethodDescriptor yX6_withoutLastFours.desc).map (fun d => d.parameters.length) = some 2 := by decide +kernel
theorem hdV_X6_canSwap : yX6_canSwap.cls = RX6 ∧ yX6_canSwap.cls ≠ "java/lang/invoke/MethodHandle" ∧ yX6_canSwap.cls ≠ "java/lang/invoke/VarHandle" ∧ (parseMethodDescriptor yX6_canSwap.desc).map (fun d => d.parameters.length) = some 2 := by decide +kernel
theorem hdV_X6_canSign : yX6_canSign.cls = RX6 ∧ yX6_canSign.cls ≠ "java/lang/invoke/MethodHandle" ∧ yX6_canSign.cls ≠ "java/lang/invoke/VarHandle" ∧ (parseMethodDescriptor yX6_canSign.desc).map (fun d => d.parameters.length) = some 3 := by decide +kernel
theorem hdV_X6_canBe : yX6_canBe.cls = RX6 ∧ yX6_canBe.cls ≠ "java/lang/invoke/MethodHandle" ∧ yX6_canBe.cls ≠ "java/lang/invoke/VarHandle" ∧ (parseMethodDescriptor yX6_canBe.desc).map (fun d => d.parameters.length) = some 4 := by decide +kernel
theorem hdV_X6_judge : yX6_judge.cls = RX6 ∧ yX6_judge.cls ≠ "java/lang/invoke/MethodHandle" ∧ yX6_judge.cls ≠ "java/lang/invoke/VarHandle" ∧ (parseMethodDescriptor yX6_judge.desc).map (fun d => d.parameters.length) = some 2 := by decide +kernel
theorem hdS_J6_bitCount_0f7a4 : yJ6_bitCount_0f7a4.cls ≠ "java/lang/invoke/MethodHandle" ∧ yJ6_bitCount_0f7a4.cls ≠ "java/lang/invoke/VarHandle" ∧ (parseMethodDescriptor yJ6_bitCount_0f7a4.desc).map (fun d => d.parameters.length) = some 1 := by decide +kernel
theorem hdS_J9_abs_0f7a4 : yJ9_abs_0f7a4.cls ≠ "java/lang/invoke/MethodHandle" ∧ yJ9_abs_0f7a4.cls ≠ "java/lang/invoke/VarHandle" ∧ (parseMethodDescriptor yJ9_abs_0f7a4.desc).map (fun d => d.parameters.length) = some 1 := by decide +kernel
theorem hdS_X6_sharedDivisor : yX6_sharedDivisor.cls ≠ "java/lang/invoke/MethodHandle" ∧ yX6_sharedDivisor.cls ≠ "java/lang/invoke/VarHandle" ∧ (parseMethodDescriptor yX6_sharedDivisor.desc).map (fun d => d.parameters.length) = some 2 := by decide +kernel
theorem hdS_X6_fraction : yX6_fraction.cls ≠ "java/lang/invoke/MethodHandle" ∧ yX6_fraction.cls ≠ "java/lang/invoke/VarHandle" ∧ (parseMethodDescriptor yX6_fraction.desc).map (fun d => d.parameters.length) = some 3 := by decide +kernel
theorem hdV_X6_share : yX6_share.cls = RX6 ∧ yX6_share.cls ≠ "java/lang/invoke/MethodHandle" ∧ yX6_share.cls ≠ "java/lang/invoke/VarHandle" ∧ (parseMethodDescriptor yX6_share.desc).map (fun d => d.parameters.length) = some 2 := by decide +kernel
theorem hdV_X6_see : yX6_see.cls = RX6 ∧ yX6_see.cls ≠ "java/lang/invoke/MethodHandle" ∧ yX6_see.cls ≠ "java/lang/invoke/VarHandle" ∧ (parseMethodDescriptor yX6_see.desc).map (fun d => d.parameters.length) = some 4 := by decide +kernel
theorem hdV_X6_unsee : yX6_unsee.cls = RX6 ∧ yX6_unsee.cls ≠ "java/lang/invoke/MethodHandle" ∧ yX6_unsee.cls ≠ "java/lang/invoke/VarHandle" ∧ (parseMethodDescriptor yX6_unsee.desc).map (fun d => d.parameters.length) = some 0 := by decide +kernel
theorem hdV_X6_which : yX6_which.cls = RX6 ∧ yX6_which.cls ≠ "java/lang/invoke/MethodHandle" ∧ yX6_which.cls ≠ "java/lang/invoke/VarHandle" ∧ (parseMethodDescriptor yX6_which.desc).map (fun d => d.parameters.length) = some 1 := by decide +kernel
theorem hdS_X6_power : yX6_power.cls ≠ "java/lang/invoke/MethodHandle" ∧ yX6_power.cls ≠ "java/lang/invoke/VarHandle" ∧ (parseMethodDescriptor yX6_power.desc).map (fun d => d.parameters.length) = some 2 := by decide +kernel
theorem hdV_X6_fails : yX6_fails.cls = RX6 ∧ yX6_fails.cls ≠ "java/lang/invoke/MethodHandle" ∧ yX6_fails.cls ≠ "java/lang/invoke/VarHandle" ∧ (parseMethodDescriptor yX6_fails.desc).map (fun d => d.parameters.length) = some 4 := by decide +kernel
theorem hdV_X6_seed : yX6_seed.cls = RX6 ∧ yX6_seed.cls ≠ "java/lang/invoke/MethodHandle" ∧ yX6_seed.cls ≠ "java/lang/invoke/VarHandle" ∧ (parseMethodDescriptor yX6_seed.desc).map (fun d => d.parameters.length) = some 1 := by decide +kernel
theorem hdS_X6_rootDrawnFrom : yX6_rootDrawnFrom.cls ≠ "java/lang/invoke/MethodHandle" ∧ yX6_rootDrawnFrom.cls ≠ "java/lang/invoke/VarHandle" ∧ (parseMethodDescriptor yX6_rootDrawnFrom.desc).map (fun d => d.parameters.length) = some 1 := by decide +kernel
theorem hdV_X6_drawn : yX6_drawn.cls = RX6 ∧ yX6_drawn.cls ≠ "java/lang/invoke/MethodHandle" ∧ yX6_drawn.cls ≠ "java/lang/invoke/VarHandle" ∧ (parseMethodDescriptor yX6_drawn.desc).map (fun d => d.parameters.length) = some 1 := by decide +kernel
theorem hdS_X6_isSlot : yX6_isSlot.cls ≠ "java/lang/invoke/MethodHandle" ∧ yX6_isSlot.cls ≠ "java/lang/invoke/VarHandle" ∧ (parseMethodDescriptor yX6_isSlot.desc).map (fun d => d.parameters.length) = some 1 := by decide +kernel
theorem hdV_X6_keep : yX6_keep.cls = RX6 ∧ yX6_keep.cls ≠ "java/lang/invoke/MethodHandle" ∧ yX6_keep.cls ≠ "java/lang/invoke/VarHandle" ∧ (parseMethodDescriptor yX6_keep.desc).map (fun d => d.parameters.length) = some 1 := by decide +kernel
theorem hdV_X6_again : yX6_again.cls = RX6 ∧ yX6_again.cls ≠ "java/lang/invoke/MethodHandle" ∧ yX6_again.cls ≠ "java/lang/invoke/VarHandle" ∧ (parseMethodDescriptor yX6_again.desc).map (fun d => d.parameters.length) = some 1 := by decide +kernel
theorem hdV_X7_forgetForms : yX7_forgetForms.cls = RX7 ∧ yX7_forgetForms.cls ≠ "java/lang/invoke/MethodHandle" ∧ yX7_forgetForms.cls ≠ "java/lang/invoke/VarHandle" ∧ (parseMethodDescriptor yX7_forgetForms.desc).map (fun d => d.parameters.length) = some 0 := by decide +kernel
theorem hdS_X7_in : yX7_in.cls ≠ "java/lang/invoke/MethodHandle" ∧ yX7_in.cls ≠ "java/lang/invoke/VarHandle" ∧ (parseMethodDescriptor yX7_in.desc).map (fun d => d.parameters.length) = some 3 := by decide +kernel
theorem hdS_X7_has : yX7_has.cls ≠ "java/lang/invoke/MethodHandle" ∧ yX7_has.cls ≠ "java/lang/invoke/VarHandle" ∧ (parseMethodDescriptor yX7_has.desc).map (fun d => d.parameters.length) = some 2 := by decide +kernel
theorem hdS_X7_ones : yX7_ones.cls ≠ "java/lang/invoke/MethodHandle" ∧ yX7_ones.cls ≠ "java/lang/invoke/VarHandle" ∧ (parseMethodDescriptor yX7_ones.desc).map (fun d => d.parameters.length) = some 1 := by decide +kernel
theorem hdS_X7_power : yX7_power.cls ≠ "java/lang/invoke/MethodHandle" ∧ yX7_power.cls ≠ "java/lang/invoke/VarHandle" ∧ (parseMethodDescriptor yX7_power.desc).map (fun d => d.parameters.length) = some 2 := by decide +kernel
theorem hdS_X7_factorial : yX7_factorial.cls ≠ "java/lang/invoke/MethodHandle" ∧ yX7_factorial.cls ≠ "java/lang/invoke/VarHandle" ∧ (parseMethodDescriptor yX7_factorial.desc).map (fun d => d.parameters.length) = some 1 := by decide +kernel
theorem hdS_X7_divisor : yX7_divisor.cls ≠ "java/lang/invoke/MethodHandle" ∧ yX7_divisor.cls ≠ "java/lang/invoke/VarHandle" ∧ (parseMethodDescriptor yX7_divisor.desc).map (fun d => d.parameters.length) = some 2 := by decide +kernel
theorem hdS_X7_fraction : yX7_fraction.cls ≠ "java/lang/invoke/MethodHandle" ∧ yX7_fraction.cls ≠ "java/lang/invoke/VarHandle" ∧ (parseMethodDescriptor yX7_fraction.desc).map (fun d => d.parameters.length) = some 3 := by decide +kernel
theorem hdS_X7_size : yX7_size.cls ≠ "java/lang/invoke/MethodHandle" ∧ yX7_size.cls ≠ "java/lang/invoke/VarHandle" ∧ (parseMethodDescriptor yX7_size.desc).map (fun d => d.parameters.length) = some 1 := by decide +kernel
theorem hdS_X7_letterAt : yX7_letterAt.cls ≠ "java/lang/invoke/MethodHandle" ∧ yX7_letterAt.cls ≠ "java/lang/invoke/VarHandle" ∧ (parseMethodDescriptor yX7_letterAt.desc).map (fun d => d.parameters.length) = some 2 := by decide +kernel
theorem hdS_X7_isWord : yX7_isWord.cls ≠ "java/lang/invoke/MethodHandle" ∧ yX7_isWord.cls ≠ "java/lang/invoke/VarHandle" ∧ (parseMethodDescriptor yX7_isWord.desc).map (fun d => d.parameters.length) = some 1 := by decide +kernel
theorem hdS_X7_fits : yX7_fits.cls ≠ "java/lang/invoke/MethodHandle" ∧ yX7_fits.cls ≠ "java/lang/invoke/VarHandle" ∧ (parseMethodDescriptor yX7_fits.desc).map (fun d => d.parameters.length) = some 2 := by decide +kernel
theorem hdS_X7_changed : yX7_changed.cls ≠ "java/lang/invoke/MethodHandle" ∧ yX7_changed.cls ≠ "java/lang/invoke/VarHandle" ∧ (parseMethodDescriptor yX7_changed.desc).map (fun d => d.parameters.length) = some 3 := by decide +kernel
theorem hdS_X7_behindAll : yX7_behindAll.cls ≠ "java/lang/invoke/MethodHandle" ∧ yX7_behindAll.cls ≠ "java/lang/invoke/VarHandle" ∧ (parseMethodDescriptor yX7_behindAll.desc).map (fun d => d.parameters.length) = some 4 := by decide +kernel
theorem hdS_X7_join : yX7_join.cls ≠ "java/lang/invoke/MethodHandle" ∧ yX7_join.cls ≠ "java/lang/invoke/VarHandle" ∧ (parseMethodDescriptor yX7_join.desc).map (fun d => d.parameters.length) = some 2 := by decide +kernel
theorem hdV_X7_raw : yX7_raw.cls = RX7 ∧ yX7_raw.cls ≠ "java/lang/invoke/MethodHandle" ∧ yX7_raw.cls ≠ "java/lang/invoke/VarHandle" ∧ (parseMethodDescriptor yX7_raw.desc).map (fun d => d.parameters.length) = some 2 := by decide +kernel
theorem hdV_X7_madeBy : yX7_madeBy.cls = RX7 ∧ yX7_madeBy.cls ≠ "java/lang/invoke/MethodHandle" ∧ yX7_madeBy.cls ≠ "java/lang/invoke/VarHandle" ∧ (parseMethodDescriptor yX7_madeBy.desc).map (fun d => d.parameters.length) = some 4 := by decide +kernel
theorem hdV_X7_isRoot : yX7_isRoot.cls = RX7 ∧ yX7_isRoot.cls ≠ "java/lang/invoke/MethodHandle" ∧ yX7_isRoot.cls ≠ "java/lang/invoke/VarHandle" ∧ (parseMethodDescriptor yX7_isRoot.desc).map (fun d => d.parameters.length) = some 1 := by decide +kernel
theorem hdV_X7_isEnding : yX7_isEnding.cls = RX7 ∧ yX7_isEnding.cls ≠ "java/lang/invoke/MethodHandle" ∧ yX7_isEnding.cls ≠ "java/lang/invoke/VarHandle" ∧ (parseMethodDescriptor yX7_isEnding.desc).map (fun d => d.parameters.length) = some 1 := by decide +kernel
theorem hdV_X7_isChange : yX7_isChange.cls = RX7 ∧ yX7_isChange.cls ≠ "java/lang/invoke/MethodHandle" ∧ yX7_isChange.cls ≠ "java/lang/invoke/VarHandle" ∧ (parseMethodDescriptor yX7_isChange.desc).map (fun d => d.parameters.length) = some 1 := by decide +kernel
theorem hdV_X7_write : yX7_write.cls = RX7 ∧ yX7_write.cls ≠ "java/lang/invoke/MethodHandle" ∧ yX7_write.cls ≠ "java/lang/invoke/VarHandle" ∧ (parseMethodDescriptor yX7_write.desc).map (fun d => d.parameters.length) = some 1 := by decide +kernel
theorem hdV_X7_wipe : yX7_wipe.cls = RX7 ∧ yX7_wipe.cls ≠ "java/lang/invoke/MethodHandle" ∧ yX7_wipe.cls ≠ "java/lang/invoke/VarHandle" ∧ (parseMethodDescriptor yX7_wipe.desc).map (fun d => d.parameters.length) = some 0 := by decide +kernel
theorem hdV_X7_begun : yX7_begun.cls = RX7 ∧ yX7_begun.cls ≠ "java/lang/invoke/MethodHandle" ∧ yX7_begun.cls ≠ "java/lang/invoke/VarHandle" ∧ (parseMethodDescriptor yX7_begun.desc).map (fun d => d.parameters.length) = some 1 := by decide +kernel
theorem hdS_X7_isLetter : yX7_isLetter.cls ≠ "java/lang/invoke/MethodHandle" ∧ yX7_isLetter.cls ≠ "java/lang/invoke/VarHandle" ∧ (parseMethodDescriptor yX7_isLetter.desc).map (fun d => d.parameters.length) = some 1 := by decide +kernel
theorem hdS_X7_signOf : yX7_signOf.cls ≠ "java/lang/invoke/MethodHandle" ∧ yX7_signOf.cls ≠ "java/lang/invoke/VarHandle" ∧ (parseMethodDescriptor yX7_signOf.desc).map (fun d => d.parameters.length) = some 2 := by decide +kernel
theorem hdS_X7_mostOf : yX7_mostOf.cls ≠ "java/lang/invoke/MethodHandle" ∧ yX7_mostOf.cls ≠ "java/lang/invoke/VarHandle" ∧ (parseMethodDescriptor yX7_mostOf.desc).map (fun d => d.parameters.length) = some 1 := by decide +kernel
theorem hdS_X7_mayEnd : yX7_mayEnd.cls ≠ "java/lang/invoke/MethodHandle" ∧ yX7_mayEnd.cls ≠ "java/lang/invoke/VarHandle" ∧ (parseMethodDescriptor yX7_mayEnd.desc).map (fun d => d.parameters.length) = some 2 := by decide +kernel
theorem hdV_X7_begin : yX7_begin.cls = RX7 ∧ yX7_begin.cls ≠ "java/lang/invoke/MethodHandle" ∧ yX7_begin.cls ≠ "java/lang/invoke/VarHandle" ∧ (parseMethodDescriptor yX7_begin.desc).map (fun d => d.parameters.length) = some 1 := by decide +kernel
theorem hdV_X7_take : yX7_take.cls = RX7 ∧ yX7_take.cls ≠ "java/lang/invoke/MethodHandle" ∧ yX7_take.cls ≠ "java/lang/invoke/VarHandle" ∧ (parseMethodDescriptor yX7_take.desc).map (fun d => d.parameters.length) = some 3 := by decide +kernel
theorem hdV_X7_readText : yX7_readText.cls = RX7 ∧ yX7_readText.cls ≠ "java/lang/invoke/MethodHandle" ∧ yX7_readText.cls ≠ "java/lang/invoke/VarHandle" ∧ (parseMethodDescriptor yX7_readText.desc).map (fun d => d.parameters.length) = some 0 := by decide +kernel
theorem hdV_X7_fault : yX7_fault.cls = RX7 ∧ yX7_fault.cls ≠ "java/lang/invoke/MethodHandle" ∧ yX7_fault.cls ≠ "java/lang/invoke/VarHandle" ∧ (parseMethodDescriptor yX7_fault.desc).map (fun d => d.parameters.length) = some 1 := by decide +kernel
theorem hdV_X7_list : yX7_list.cls = RX7 ∧ yX7_list.cls ≠ "java/lang/invoke/MethodHandle" ∧ yX7_list.cls ≠ "java/lang/invoke/VarHandle" ∧ (parseMethodDescriptor yX7_list.desc).map (fun d => d.parameters.length) = some 0 := by decide +kernel
theorem hdV_X7_unlike : yX7_unlike.cls = RX7 ∧ yX7_unlike.cls ≠ "java/lang/invoke/MethodHandle" ∧ yX7_unlike.cls ≠ "java/lang/invoke/VarHandle" ∧ (parseMethodDescriptor yX7_unlike.desc).map (fun d => d.parameters.length) = some 2 := by decide +kernel
theorem hdV_X7_active : yX7_active.cls = RX7 ∧ yX7_active.cls ≠ "java/lang/invoke/MethodHandle" ∧ yX7_active.cls ≠ "java/lang/invoke/VarHandle" ∧ (parseMethodDescriptor yX7_active.desc).map (fun d => d.parameters.length) = some 1 := by decide +kernel
theorem hdV_X7_exceptions : yX7_exceptions.cls = RX7 ∧ yX7_exceptions.cls ≠ "java/lang/invoke/MethodHandle" ∧ yX7_exceptions.cls ≠ "java/lang/invoke/VarHandle" ∧ (parseMethodDescriptor yX7_exceptions.desc).map (fun d => d.parameters.length) = some 1 := by decide +kernel
theorem hdV_X7_manyForms : yX7_manyForms.cls = RX7 ∧ yX7_manyForms.cls ≠ "java/lang/invoke/MethodHandle" ∧ yX7_manyForms.cls ≠ "java/lang/invoke/VarHandle" ∧ (parseMethodDescriptor yX7_manyForms.desc).map (fun d => d.parameters.length) = some 0 := by decide +kernel
theorem hdV_X7_about : yX7_about.cls = RX7 ∧ yX7_about.cls ≠ "java/lang/invoke/MethodHandle" ∧ yX7_about.cls ≠ "java/lang/invoke/VarHandle" ∧ (parseMethodDescriptor yX7_about.desc).map (fun d => d.parameters.length) = some 1 := by decide +kernel
theorem hdV_X7_part : yX7_part.cls = RX7 ∧ yX7_part.cls ≠ "java/lang/invoke/MethodHandle" ∧ yX7_part.cls ≠ "java/lang/invoke/VarHandle" ∧ (parseMethodDescriptor yX7_part.desc).map (fun d => d.parameters.length) = some 2 := by decide +kernel
theorem hdV_X7_sign : yX7_sign.cls = RX7 ∧ yX7_sign.cls ≠ "java/lang/invoke/MethodHandle" ∧ yX7_sign.cls ≠ "java/lang/invoke/VarHandle" ∧ (parseMethodDescriptor yX7_sign.desc).map (fun d => d.parameters.length) = some 2 := by decide +kernel
theorem hdV_X7_order : yX7_order.cls = RX7 ∧ yX7_order.cls ≠ "java/lang/invoke/MethodHandle" ∧ yX7_order.cls ≠ "java/lang/invoke/VarHandle" ∧ (parseMethodDescriptor yX7_order.desc).map (fun d => d.parameters.length) = some 1 := by decide +kernel
theorem hdV_X7_made : yX7_made.cls = RX7 ∧ yX7_made.cls ≠ "java/lang/invoke/MethodHandle" ∧ yX7_made.cls ≠ "java/lang/invoke/VarHandle" ∧ (parseMethodDescriptor yX7_made.desc).map (fun d => d.parameters.length) = some 2 := by decide +kernel
theorem hdV_X7_step : yX7_step.cls = RX7 ∧ yX7_step.cls ≠ "java/lang/invoke/MethodHandle" ∧ yX7_step.cls ≠ "java/lang/invoke/VarHandle" ∧ (parseMethodDescriptor yX7_step.desc).map (fun d => d.parameters.length) = some 3 := by decide +kernel
theorem hdV_X7_apart : yX7_apart.cls = RX7 ∧ yX7_apart.cls ≠ "java/lang/invoke/MethodHandle" ∧ yX7_apart.cls ≠ "java/lang/invoke/VarHandle" ∧ (parseMethodDescriptor yX7_apart.desc).map (fun d => d.parameters.length) = some 2 := by decide +kernel
theorem hdV_X7_form : yX7_form.cls = RX7 ∧ yX7_form.cls ≠ "java/lang/invoke/MethodHandle" ∧ yX7_form.cls ≠ "java/lang/invoke/VarHandle" ∧ (parseMethodDescriptor yX7_form.desc).map (fun d => d.parameters.length) = some 2 := by decide +kernel
theorem hdV_X7_noteDoing : yX7_noteDoing.cls = RX7 ∧ yX7_noteDoing.cls ≠ "java/lang/invoke/MethodHandle" ∧ yX7_noteDoing.cls ≠ "java/lang/invoke/VarHandle" ∧ (parseMethodDescriptor yX7_noteDoing.desc).map (fun d => d.parameters.length) = some 0 := by decide +kernel
theorem hdS_X7_swapOn : yX7_swapOn.cls ≠ "java/lang/invoke/MethodHandle" ∧ yX7_swapOn.cls ≠ "java/lang/invoke/VarHandle" ∧ (parseMethodDescriptor yX7_swapOn.desc).map (fun d => d.parameters.length) = some 3 := by decide +kernel
theorem hdS_X7_isSign : yX7_isSign.cls ≠ "java/lang/invoke/MethodHandle" ∧ yX7_isSign.cls ≠ "java/lang/invoke/VarHandle" ∧ (parseMethodDescriptor yX7_isSign.desc).map (fun d => d.parameters.length) = some 2 := by decide +kernel
theorem hdV_X7_swap : yX7_swap.cls = RX7 ∧ yX7_swap.cls ≠ "java/lang/invoke/MethodHandle" ∧ yX7_swap.cls ≠ "java/lang/invoke/VarHandle" ∧ (parseMethodDescriptor yX7_swap.desc).map (fun d => d.parameters.length) = some 2 := by decide +kernel
theorem hdV_X7_resign : yX7_resign.cls = RX7 ∧ yX7_resign.cls ≠ "java/lang/invoke/MethodHandle" ∧ yX7_resign.cls ≠ "java/lang/invoke/VarHandle" ∧ (parseMethodDescriptor yX7_resign.desc).map (fun d => d.parameters.length) = some 3 := by decide +kernel
theorem hdV_X7_tell : yX7_tell.cls = RX7 ∧ yX7_tell.cls ≠ "java/lang/invoke/MethodHandle" ∧ yX7_tell.cls ≠ "java/lang/invoke/VarHandle" ∧ (parseMethodDescriptor yX7_tell.desc).map (fun d => d.parameters.length) = some 3 := by decide +kernel
theorem hdV_X7_undo : yX7_undo.cls = RX7 ∧ yX7_undo.cls ≠ "java/lang/invoke/MethodHandle" ∧ yX7_undo.cls ≠ "java/lang/invoke/VarHandle" ∧ (parseMethodDescriptor yX7_undo.desc).map (fun d => d.parameters.length) = some 0 := by decide +kernel
theorem hdV_X7_areCrossing : yX7_areCrossing.cls = RX7 ∧ yX7_areCrossing.cls ≠ "java/lang/invoke/MethodHandle" ∧ yX7_areCrossing.cls ≠ "java/lang/invoke/VarHandle" ∧ (parseMethodDescriptor yX7_areCrossing.desc).map (fun d => d.parameters.length) = some 3 := by decide +kernel
theorem hdV_X7_cross : yX7_cross.cls = RX7 ∧ yX7_cross.cls ≠ "java/lang/invoke/MethodHandle" ∧ yX7_cross.cls ≠ "java/lang/invoke/VarHandle" ∧ (parseMethodDescriptor yX7_cross.desc).map (fun d => d.parameters.length) = some 2 := by decide +kernel
theorem hdV_X7_changeAt : yX7_changeAt.cls = RX7 ∧ yX7_changeAt.cls ≠ "java/lang/invoke/MethodHandle" ∧ yX7_changeAt.cls ≠ "java/lang/invoke/VarHandle" ∧ (parseMethodDescriptor yX7_changeAt.desc).map (fun d => d.parameters.length) = some 2 := by decide +kernel
theorem hdV_X7_isOrder : yX7_isOrder.cls = RX7 ∧ yX7_isOrder.cls ≠ "java/lang/invoke/MethodHandle" ∧ yX7_isOrder.cls ≠ "java/lang/invoke/VarHandle" ∧ (parseMethodDescriptor yX7_isOrder.desc).map (fun d => d.parameters.length) = some 1 := by decide +kernel
theorem hdV_X7_figuresOf : yX7_figuresOf.cls = RX7 ∧ yX7_figuresOf.cls ≠ "java/lang/invoke/MethodHandle" ∧ yX7_figuresOf.cls ≠ "java/lang/invoke/VarHandle" ∧ (parseMethodDescriptor yX7_figuresOf.desc).map (fun d => d.parameters.length) = some 1 := by decide +kernel
theorem hdV_X7_layTrial : yX7_layTrial.cls = RX7 ∧ yX7_layTrial.cls ≠ "java/lang/invoke/MethodHandle" ∧ yX7_layTrial.cls ≠ "java/lang/invoke/VarHandle" ∧ (parseMethodDescriptor yX7_layTrial.desc).map (fun d => d.parameters.length) = some 0 := by decide +kernel
theorem hdV_X7_best : yX7_best.cls = RX7 ∧ yX7_best.cls ≠ "java/lang/invoke/MethodHandle" ∧ yX7_best.cls ≠ "java/lang/invoke/VarHandle" ∧ (parseMethodDescriptor yX7_best.desc).map (fun d => d.parameters.length) = some 1 := by decide +kernel
theorem hdV_X7_judged : yX7_judged.cls = RX7 ∧ yX7_judged.cls ≠ "java/lang/invoke/MethodHandle" ∧ yX7_judged.cls ≠ "java/lang/invoke/VarHandle" ∧ (parseMethodDescriptor yX7_judged.desc).map (fun d => d.parameters.length) = some 4 := by decide +kernel
theorem hdS_X7_tenThousands : yX7_tenThousands.cls ≠ "java/lang/invoke/MethodHandle" ∧ yX7_tenThousands.cls ≠ "java/lang/invoke/VarHandle" ∧ (parseMethodDescriptor yX7_tenThousands.desc).map (fun d => d.parameters.length) = some 1 := by decide +kernel
theorem hdV_X7_judge : yX7_judge.cls = RX7 ∧ yX7_judge.cls ≠ "java/lang/invoke/MethodHandle" ∧ yX7_judge.cls ≠ "java/lang/invoke/VarHandle" ∧ (parseMethodDescriptor yX7_judge.desc).map (fun d => d.parameters.length) = some 2 := by decide +kernel
theorem hdV_X7_share : yX7_share.cls = RX7 ∧ yX7_share.cls ≠ "java/lang/invoke/MethodHandle" ∧ yX7_share.cls ≠ "java/lang/invoke/VarHandle" ∧ (parseMethodDescriptor yX7_share.desc).map (fun d => d.parameters.length) = some 2 := by decide +kernel
theorem hdV_X7_see : yX7_see.cls = RX7 ∧ yX7_see.cls ≠ "java/lang/invoke/MethodHandle" ∧ yX7_see.cls ≠ "java/lang/invoke/VarHandle" ∧ (parseMethodDescriptor yX7_see.desc).map (fun d => d.parameters.length) = some 4 := by decide +kernel
theorem hdV_X7_unsee : yX7_unsee.cls = RX7 ∧ yX7_unsee.cls ≠ "java/lang/invoke/MethodHandle" ∧ yX7_unsee.cls ≠ "java/lang/invoke/VarHandle" ∧ (parseMethodDescriptor yX7_unsee.desc).map (fun d => d.parameters.length) = some 0 := by decide +kernel
theorem hdV_X7_agrees : yX7_agrees.cls = RX7 ∧ yX7_agrees.cls ≠ "java/lang/invoke/MethodHandle" ∧ yX7_agrees.cls ≠ "java/lang/invoke/VarHandle" ∧ (parseMethodDescriptor yX7_agrees.desc).map (fun d => d.parameters.length) = some 1 := by decide +kernel
theorem hdV_X7_which : yX7_which.cls = RX7 ∧ yX7_which.cls ≠ "java/lang/invoke/MethodHandle" ∧ yX7_which.cls ≠ "java/lang/invoke/VarHandle" ∧ (parseMethodDescriptor yX7_which.desc).map (fun d => d.parameters.length) = some 1 := by decide +kernel
theorem hdV_X7_fails : yX7_fails.cls = RX7 ∧ yX7_fails.cls ≠ "java/lang/invoke/MethodHandle" ∧ yX7_fails.cls ≠ "java/lang/invoke/VarHandle" ∧ (parseMethodDescriptor yX7_fails.desc).map (fun d => d.parameters.length) = some 4 := by decide +kernel
theorem hdV_X7_seed : yX7_seed.cls = RX7 ∧ yX7_seed.cls ≠ "java/lang/invoke/MethodHandle" ∧ yX7_seed.cls ≠ "java/lang/invoke/VarHandle" ∧ (parseMethodDescriptor yX7_seed.desc).map (fun d => d.parameters.length) = some 1 := by decide +kernel
theorem hdV_X7_drawn : yX7_drawn.cls = RX7 ∧ yX7_drawn.cls ≠ "java/lang/invoke/MethodHandle" ∧ yX7_drawn.cls ≠ "java/lang/invoke/VarHandle" ∧ (parseMethodDescriptor yX7_drawn.desc).map (fun d => d.parameters.length) = some 1 := by decide +kernel
theorem hdV_X7_keep : yX7_keep.cls = RX7 ∧ yX7_keep.cls ≠ "java/lang/invoke/MethodHandle" ∧ yX7_keep.cls ≠ "java/lang/invoke/VarHandle" ∧ (parseMethodDescriptor yX7_keep.desc).map (fun d => d.parameters.length) = some 1 := by decide +kernel
theorem hdV_X7_again : yX7_again.cls = RX7 ∧ yX7_again.cls ≠ "java/lang/invoke/MethodHandle" ∧ yX7_again.cls ≠ "java/lang/invoke/VarHandle" ∧ (parseMethodDescriptor yX7_again.desc).map (fun d => d.parameters.length) = some 1 := by decide +kernel
def Fx (X : Cx) (fa : Nat) (U : State) : Prop := va_Z "WordKin" "FACTORIALS" "[I" (.ref fa) (AD X) U U.heap ∧ va_X fa 5 fct U U.heap ∧ fa < U.heap.size ∧ ¬ AD X fa
theorem BD_ofF {l : Launch} {X : Cx} (hI : Inj X) {fa : Nat} {y : MethodName} {cc : ByteArray} {n : Nat} {r : Option FieldType} {fr lo : Nat} {h : Hp} {av : List Value} {own : String} {Qc : Array Value → State → Outcome → State → Prop} (ho : y.cls = own) (hy : plainName y.cls = true) (hlen : (lg_sl av).length ≤ n)
    (body : ∀ (p : Program) (e : Env) (s : State) (m : MethodId) (args : Array Value) (below : List Frame) (meth : Method) (c : Code), CallFix p m c cc n s args (wU y cc n r) own → meth.sig.returnType = r → meth.locks = false → va_K (wD X) classes (tyS X) s → Nst s → Fx X fa s → BK p l e ({ frames := fr, cells := 0, slots := 0, locals := lo }) s m args below meth c (MQ below Qc args s 0 0 (AD X)) X n 0 (lv_args 0 av) [] h) : Met l y (wU y cc n r) ({ frames := fr, cells := 0, slots := 0, locals := lo }) (va_Pc av (fun U => Wd X h U ∧ Fx X fa U)) Qc 0 0 (AD X) := by
  refine Met.ofW (cc := cc) (maxL := n) (ret := r) hy rfl ?_
  intro p e s m args below meth c s₁ B hml hv
  obtain ⟨rfl, ⟨hP, hK, hN⟩, hF⟩ := hv
  have hown : s.vm.findClass own = some m.cls := by rw [← ho]; exact findClass_of_methodNamed B.named
  have hl := lv_entry av (n := n) hlen
  rw [lg_entry_eq]
  exact body p e s m _ below meth c ⟨B.exec, B.bytes, hml, hown, atoms_spec (ws := wU y cc n r) B.pre⟩ B.returns B.notSynchronized hK hN hF s.heap [] _ hl ⟨hP, va_S.rf, hI, fun _ z => z⟩
end
section
def g_X0_add_32 (a0 : Nat) (a1 : Int32) (a2 : Int32) (a3 : Int32) (a4 : Int32) (h : Hp) : Option Hp := (if okI (((h.1 a0 4) + (h.1 a0 5)) - ((h.1 a0 4) + (h.1 a0 5)) / (14 : Int32) * (14 : Int32)) (lN_ (rF a0 0)) = true then (if okI (((h.1 a0 4) + (h.1 a0 5)) - ((h.1 a0 4) + (h.1 a0 5)) / (14 : Int32) * (14 : Int32)) (lN_ (rF a0 1)) = true then (if okI (((h.1 a0 4) + (h.1 a0 5)) - ((h.1 a0 4) + (h.1 a0 5)) / (14 : Int32) * (14 : Int32)) (lN_ (rF a0 2)) = true then (if okI (((h.1 a0 4) + (h.1 a0 5)) - ((h.1 a0 4) + (h.1 a0 5)) / (14 : Int32) * (14 : Int32)) (lN_ (rF a0 3)) = true then (some (sI (sI (sI (sI (sI h (rF a0 0) ((((h.1 a0 4) + (h.1 a0 5)) - ((h.1 a0 4) + (h.1 a0 5)) / (14 : Int32) * (14 : Int32))).toNatClampNeg a1) (rF a0 1) ((((h.1 a0 4) + (h.1 a0 5)) - ((h.1 a0 4) + (h.1 a0 5)) / (14 : Int32) * (14 : Int32))).toNatClampNeg a2) (rF a0 2) ((((h.1 a0 4) + (h.1 a0 5)) - ((h.1 a0 4) + (h.1 a0 5)) / (14 : Int32) * (14 : Int32))).toNatClampNeg a3) (rF a0 3) ((((h.1 a0 4) + (h.1 a0 5)) - ((h.1 a0 4) + (h.1 a0 5)) / (14 : Int32) * (14 : Int32))).toNatClampNeg a4) a0 5 (((sI (sI (sI (sI h (rF a0 0) ((((h.1 a0 4) + (h.1 a0 5)) - ((h.1 a0 4) + (h.1 a0 5)) / (14 : Int32) * (14 : Int32))).toNatClampNeg a1) (rF a0 1) ((((h.1 a0 4) + (h.1 a0 5)) - ((h.1 a0 4) + (h.1 a0 5)) / (14 : Int32) * (14 : Int32))).toNatClampNeg a2) (rF a0 2) ((((h.1 a0 4) + (h.1 a0 5)) - ((h.1 a0 4) + (h.1 a0 5)) / (14 : Int32) * (14 : Int32))).toNatClampNeg a3) (rF a0 3) ((((h.1 a0 4) + (h.1 a0 5)) - ((h.1 a0 4) + (h.1 a0 5)) / (14 : Int32) * (14 : Int32))).toNatClampNeg a4).1 a0 5) + (1 : Int32)))) else none) else none) else none) else none)
def f_X0_add (a0 : Nat) (a1 : Int32) (a2 : Int32) (a3 : Int32) (a4 : Int32) (h : Hp) : Option Hp := (if (h.1 a0 5) = (14 : Int32) then g_X0_add_32 a0 a1 a2 a3 a4 (sI (sI h a0 4 (((h.1 a0 4) + (1 : Int32)) - ((h.1 a0 4) + (1 : Int32)) / (14 : Int32) * (14 : Int32))) a0 5 (((sI h a0 4 (((h.1 a0 4) + (1 : Int32)) - ((h.1 a0 4) + (1 : Int32)) / (14 : Int32) * (14 : Int32))).1 a0 5) - (1 : Int32))) else g_X0_add_32 a0 a1 a2 a3 a4 h)
def f_X4_exchange (a0 : Nat) (a1 : Int32) (a2 : Int32) (h : Hp) : Option Hp := (if okI a1 (lN_ (rF a0 2)) = true then (if okI a2 (lN_ (rF a0 2)) = true then (if okI a1 (lN_ (rF a0 2)) = true then (if okI a2 (lN_ (rF a0 2)) = true then (some (sI (sI h (rF a0 2) (a1).toNatClampNeg (h.1 (rF a0 2) (a2).toNatClampNeg)) (rF a0 2) (a2).toNatClampNeg (h.1 (rF a0 2) (a1).toNatClampNeg))) else none) else none) else none) else none)
def f_X4_putSign (a0 : Nat) (a1 : Int32) (a2 : Int32) (a3 : Int32) (h : Hp) : Option Hp := (if okI ((a1 * (4 : Int32)) + a2) (lN_ (rF a0 1)) = true then (some (sI h (rF a0 1) (((a1 * (4 : Int32)) + a2)).toNatClampNeg a3)) else none)
def f_X4_putForm (a0 : Nat) (a1 : Int32) (a2 : Int32) (a3 : Int32) (h : Hp) : Option Hp := (if okI ((a1 * (3 : Int32)) + a2) (lN_ (rF a0 3)) = true then (some (sI h (rF a0 3) (((a1 * (3 : Int32)) + a2)).toNatClampNeg a3)) else none)
def f_X0_takeBackLast (a0 : Nat) (a1 : Nat) (h : Hp) : Option Hp := (if (h.1 a0 5) = 0 then (some h) else (if okI ((((sI h a0 5 ((h.1 a0 5) - (1 : Int32))).1 a0 4) + ((sI h a0 5 ((h.1 a0 5) - (1 : Int32))).1 a0 5)) - (((sI h a0 5 ((h.1 a0 5) - (1 : Int32))).1 a0 4) + ((sI h a0 5 ((h.1 a0 5) - (1 : Int32))).1 a0 5)) / (14 : Int32) * (14 : Int32)) (lN_ (rF a0 0)) = true then (if ((sI h a0 5 ((h.1 a0 5) - (1 : Int32))).1 (rF a0 0) (((((sI h a0 5 ((h.1 a0 5) - (1 : Int32))).1 a0 4) + ((sI h a0 5 ((h.1 a0 5) - (1 : Int32))).1 a0 5)) - (((sI h a0 5 ((h.1 a0 5) - (1 : Int32))).1 a0 4) + ((sI h a0 5 ((h.1 a0 5) - (1 : Int32))).1 a0 5)) / (14 : Int32) * (14 : Int32))).toNatClampNeg) = 1 then (if okI ((((sI h a0 5 ((h.1 a0 5) - (1 : Int32))).1 a0 4) + ((sI h a0 5 ((h.1 a0 5) - (1 : Int32))).1 a0 5)) - (((sI h a0 5 ((h.1 a0 5) - (1 : Int32))).1 a0 4) + ((sI h a0 5 ((h.1 a0 5) - (1 : Int32))).1 a0 5)) / (14 : Int32) * (14 : Int32)) (lN_ (rF a0 1)) = true then (if okI ((((sI h a0 5 ((h.1 a0 5) - (1 : Int32))).1 a0 4) + ((sI h a0 5 ((h.1 a0 5) - (1 : Int32))).1 a0 5)) - (((sI h a0 5 ((h.1 a0 5) - (1 : Int32))).1 a0 4) + ((sI h a0 5 ((h.1 a0 5) - (1 : Int32))).1 a0 5)) / (14 : Int32) * (14 : Int32)) (lN_ (rF a0 2)) = true then ((f_X4_exchange a1 ((sI h a0 5 ((h.1 a0 5) - (1 : Int32))).1 (rF a0 1) (((((sI h a0 5 ((h.1 a0 5) - (1 : Int32))).1 a0 4) + ((sI h a0 5 ((h.1 a0 5) - (1 : Int32))).1 a0 5)) - (((sI h a0 5 ((h.1 a0 5) - (1 : Int32))).1 a0 4) + ((sI h a0 5 ((h.1 a0 5) - (1 : Int32))).1 a0 5)) / (14 : Int32) * (14 : Int32))).toNatClampNeg) ((sI h a0 5 ((h.1 a0 5) - (1 : Int32))).1 (rF a0 2) (((((sI h a0 5 ((h.1 a0 5) - (1 : Int32))).1 a0 4) + ((sI h a0 5 ((h.1 a0 5) - (1 : Int32))).1 a0 5)) - (((sI h a0 5 ((h.1 a0 5) - (1 : Int32))).1 a0 4) + ((sI h a0 5 ((h.1 a0 5) - (1 : Int32))).1 a0 5)) / (14 : Int32) * (14 : Int32))).toNatClampNeg) (sI h a0 5 ((h.1 a0 5) - (1 : Int32)))).bind (fun h7 => (some h7))) else none) else none) else (if ((sI h a0 5 ((h.1 a0 5) - (1 : Int32))).1 (rF a0 0) (((((sI h a0 5 ((h.1 a0 5) - (1 : Int32))).1 a0 4) + ((sI h a0 5 ((h.1 a0 5) - (1 : Int32))).1 a0 5)) - (((sI h a0 5 ((h.1 a0 5) - (1 : Int32))).1 a0 4) + ((sI h a0 5 ((h.1 a0 5) - (1 : Int32))).1 a0 5)) / (14 : Int32) * (14 : Int32))).toNatClampNeg) = 2 then (if okI ((((sI h a0 5 ((h.1 a0 5) - (1 : Int32))).1 a0 4) + ((sI h a0 5 ((h.1 a0 5) - (1 : Int32))).1 a0 5)) - (((sI h a0 5 ((h.1 a0 5) - (1 : Int32))).1 a0 4) + ((sI h a0 5 ((h.1 a0 5) - (1 : Int32))).1 a0 5)) / (14 : Int32) * (14 : Int32)) (lN_ (rF a0 1)) = true then (if okI ((((sI h a0 5 ((h.1 a0 5) - (1 : Int32))).1 a0 4) + ((sI h a0 5 ((h.1 a0 5) - (1 : Int32))).1 a0 5)) - (((sI h a0 5 ((h.1 a0 5) - (1 : Int32))).1 a0 4) + ((sI h a0 5 ((h.1 a0 5) - (1 : Int32))).1 a0 5)) / (14 : Int32) * (14 : Int32)) (lN_ (rF a0 2)) = true then (if okI ((((sI h a0 5 ((h.1 a0 5) - (1 : Int32))).1 a0 4) + ((sI h a0 5 ((h.1 a0 5) - (1 : Int32))).1 a0 5)) - (((sI h a0 5 ((h.1 a0 5) - (1 : Int32))).1 a0 4) + ((sI h a0 5 ((h.1 a0 5) - (1 : Int32))).1 a0 5)) / (14 : Int32) * (14 : Int32)) (lN_ (rF a0 3)) = true then ((f_X4_putSign a1 ((sI h a0 5 ((h.1 a0 5) - (1 : Int32))).1 (rF a0 1) (((((sI h a0 5 ((h.1 a0 5) - (1 : Int32))).1 a0 4) + ((sI h a0 5 ((h.1 a0 5) - (1 : Int32))).1 a0 5)) - (((sI h a0 5 ((h.1 a0 5) - (1 : Int32))).1 a0 4) + ((sI h a0 5 ((h.1 a0 5) - (1 : Int32))).1 a0 5)) / (14 : Int32) * (14 : Int32))).toNatClampNeg) ((sI h a0 5 ((h.1 a0 5) - (1 : Int32))).1 (rF a0 2) (((((sI h a0 5 ((h.1 a0 5) - (1 : Int32))).1 a0 4) + ((sI h a0 5 ((h.1 a0 5) - (1 : Int32))).1 a0 5)) - (((sI h a0 5 ((h.1 a0 5) - (1 : Int32))).1 a0 4) + ((sI h a0 5 ((h.1 a0 5) - (1 : Int32))).1 a0 5)) / (14 : Int32) * (14 : Int32))).toNatClampNeg) ((sI h a0 5 ((h.1 a0 5) - (1 : Int32))).1 (rF a0 3) (((((sI h a0 5 ((h.1 a0 5) - (1 : Int32))).1 a0 4) + ((sI h a0 5 ((h.1 a0 5) - (1 : Int32))).1 a0 5)) - (((sI h a0 5 ((h.1 a0 5) - (1 : Int32))).1 a0 4) + ((sI h a0 5 ((h.1 a0 5) - (1 : Int32))).1 a0 5)) / (14 : Int32) * (14 : Int32))).toNatClampNeg) (sI h a0 5 ((h.1 a0 5) - (1 : Int32)))).bind (fun h14 => (some h14))) else none) else none) else none) else (if ((sI h a0 5 ((h.1 a0 5) - (1 : Int32))).1 (rF a0 0) (((((sI h a0 5 ((h.1 a0 5) - (1 : Int32))).1 a0 4) + ((sI h a0 5 ((h.1 a0 5) - (1 : Int32))).1 a0 5)) - (((sI h a0 5 ((h.1 a0 5) - (1 : Int32))).1 a0 4) + ((sI h a0 5 ((h.1 a0 5) - (1 : Int32))).1 a0 5)) / (14 : Int32) * (14 : Int32))).toNatClampNeg) = 3 then (if okI ((((sI h a0 5 ((h.1 a0 5) - (1 : Int32))).1 a0 4) + ((sI h a0 5 ((h.1 a0 5) - (1 : Int32))).1 a0 5)) - (((sI h a0 5 ((h.1 a0 5) - (1 : Int32))).1 a0 4) + ((sI h a0 5 ((h.1 a0 5) - (1 : Int32))).1 a0 5)) / (14 : Int32) * (14 : Int32)) (lN_ (rF a0 1)) = true then (if okI ((((sI h a0 5 ((h.1 a0 5) - (1 : Int32))).1 a0 4) + ((sI h a0 5 ((h.1 a0 5) - (1 : Int32))).1 a0 5)) - (((sI h a0 5 ((h.1 a0 5) - (1 : Int32))).1 a0 4) + ((sI h a0 5 ((h.1 a0 5) - (1 : Int32))).1 a0 5)) / (14 : Int32) * (14 : Int32)) (lN_ (rF a0 2)) = true then (if okI ((((sI h a0 5 ((h.1 a0 5) - (1 : Int32))).1 a0 4) + ((sI h a0 5 ((h.1 a0 5) - (1 : Int32))).1 a0 5)) - (((sI h a0 5 ((h.1 a0 5) - (1 : Int32))).1 a0 4) + ((sI h a0 5 ((h.1 a0 5) - (1 : Int32))).1 a0 5)) / (14 : Int32) * (14 : Int32)) (lN_ (rF a0 3)) = true then ((f_X4_putForm a1 ((sI h a0 5 ((h.1 a0 5) - (1 : Int32))).1 (rF a0 1) (((((sI h a0 5 ((h.1 a0 5) - (1 : Int32))).1 a0 4) + ((sI h a0 5 ((h.1 a0 5) - (1 : Int32))).1 a0 5)) - (((sI h a0 5 ((h.1 a0 5) - (1 : Int32))).1 a0 4) + ((sI h a0 5 ((h.1 a0 5) - (1 : Int32))).1 a0 5)) / (14 : Int32) * (14 : Int32))).toNatClampNeg) ((sI h a0 5 ((h.1 a0 5) - (1 : Int32))).1 (rF a0 2) (((((sI h a0 5 ((h.1 a0 5) - (1 : Int32))).1 a0 4) + ((sI h a0 5 ((h.1 a0 5) - (1 : Int32))).1 a0 5)) - (((sI h a0 5 ((h.1 a0 5) - (1 : Int32))).1 a0 4) + ((sI h a0 5 ((h.1 a0 5) - (1 : Int32))).1 a0 5)) / (14 : Int32) * (14 : Int32))).toNatClampNeg) ((sI h a0 5 ((h.1 a0 5) - (1 : Int32))).1 (rF a0 3) (((((sI h a0 5 ((h.1 a0 5) - (1 : Int32))).1 a0 4) + ((sI h a0 5 ((h.1 a0 5) - (1 : Int32))).1 a0 5)) - (((sI h a0 5 ((h.1 a0 5) - (1 : Int32))).1 a0 4) + ((sI h a0 5 ((h.1 a0 5) - (1 : Int32))).1 a0 5)) / (14 : Int32) * (14 : Int32))).toNatClampNeg) (sI h a0 5 ((h.1 a0 5) - (1 : Int32)))).bind (fun h21 => (some h21))) else none) else none) else none) else (some (sI h a0 5 ((h.1 a0 5) - (1 : Int32))))))) else none))
def f_X1_add (a0 : Nat) (a1 : Int32) (a2 : Int32) (a3 : Int32) (a4 : Int32) (h : Hp) : Option (Int32 × Hp) := (if (h.1 a0 4) < (6 : Int32) then (if okI (h.1 a0 4) (lN_ (rF a0 0)) = true then (if okI ((sI h (rF a0 0) ((h.1 a0 4)).toNatClampNeg a1).1 a0 4) (lN_ (rF a0 1)) = true then (if okI ((sI (sI h (rF a0 0) ((h.1 a0 4)).toNatClampNeg a1) (rF a0 1) (((sI h (rF a0 0) ((h.1 a0 4)).toNatClampNeg a1).1 a0 4)).toNatClampNeg a2).1 a0 4) (lN_ (rF a0 2)) = true then (if okI ((sI (sI (sI h (rF a0 0) ((h.1 a0 4)).toNatClampNeg a1) (rF a0 1) (((sI h (rF a0 0) ((h.1 a0 4)).toNatClampNeg a1).1 a0 4)).toNatClampNeg a2) (rF a0 2) (((sI (sI h (rF a0 0) ((h.1 a0 4)).toNatClampNeg a1) (rF a0 1) (((sI h (rF a0 0) ((h.1 a0 4)).toNatClampNeg a1).1 a0 4)).toNatClampNeg a2).1 a0 4)).toNatClampNeg a3).1 a0 4) (lN_ (rF a0 3)) = true then (some ((1 : Int32), (sI (sI (sI (sI (sI h (rF a0 0) ((h.1 a0 4)).toNatClampNeg a1) (rF a0 1) (((sI h (rF a0 0) ((h.1 a0 4)).toNatClampNeg a1).1 a0 4)).toNatClampNeg a2) (rF a0 2) (((sI (sI h (rF a0 0) ((h.1 a0 4)).toNatClampNeg a1) (rF a0 1) (((sI h (rF a0 0) ((h.1 a0 4)).toNatClampNeg a1).1 a0 4)).toNatClampNeg a2).1 a0 4)).toNatClampNeg a3) (rF a0 3) (((sI (sI (sI h (rF a0 0) ((h.1 a0 4)).toNatClampNeg a1) (rF a0 1) (((sI h (rF a0 0) ((h.1 a0 4)).toNatClampNeg a1).1 a0 4)).toNatClampNeg a2) (rF a0 2) (((sI (sI h (rF a0 0) ((h.1 a0 4)).toNatClampNeg a1) (rF a0 1) (((sI h (rF a0 0) ((h.1 a0 4)).toNatClampNeg a1).1 a0 4)).toNatClampNeg a2).1 a0 4)).toNatClampNeg a3).1 a0 4)).toNatClampNeg (vp_nar .boolean a4)) a0 4 (((sI (sI (sI (sI h (rF a0 0) ((h.1 a0 4)).toNatClampNeg a1) (rF a0 1) (((sI h (rF a0 0) ((h.1 a0 4)).toNatClampNeg a1).1 a0 4)).toNatClampNeg a2) (rF a0 2) (((sI (sI h (rF a0 0) ((h.1 a0 4)).toNatClampNeg a1) (rF a0 1) (((sI h (rF a0 0) ((h.1 a0 4)).toNatClampNeg a1).1 a0 4)).toNatClampNeg a2).1 a0 4)).toNatClampNeg a3) (rF a0 3) (((sI (sI (sI h (rF a0 0) ((h.1 a0 4)).toNatClampNeg a1) (rF a0 1) (((sI h (rF a0 0) ((h.1 a0 4)).toNatClampNeg a1).1 a0 4)).toNatClampNeg a2) (rF a0 2) (((sI (sI h (rF a0 0) ((h.1 a0 4)).toNatClampNeg a1) (rF a0 1) (((sI h (rF a0 0) ((h.1 a0 4)).toNatClampNeg a1).1 a0 4)).toNatClampNeg a2).1 a0 4)).toNatClampNeg a3).1 a0 4)).toNatClampNeg (vp_nar .boolean a4)).1 a0 4) + (1 : Int32))))) else none) else none) else none) else none) else (some ((0 : Int32), h)))
def f_X2_hasEnding (a0 : Nat) (a1 : Int32) (h : Hp) : Option (Int32 × Hp) := (if a1 < 0 then (some ((0 : Int32), h)) else (if (h.1 a0 3) ≤ a1 then (some ((0 : Int32), h)) else (some ((1 : Int32), h))))
def g_X5_join_13 (a0 : Int32) (a1 : Int32) (z0 : Int32) (h : Hp) : Option (Int32 × Hp) := (some (((z0 * a0) + a1), h))
def f_X5_join (a0 : Int32) (a1 : Int32) (h : Hp) : Option (Int32 × Hp) := (if (10 : Int32) ≤ a1 then g_X5_join_13 a0 a1 (100 : Int32) h else g_X5_join_13 a0 a1 (10 : Int32) h)
def f_X4_signOf (a0 : Nat) (a1 : Int32) (a2 : Int32) (h : Hp) : Option (Int32 × Hp) := (if okI ((a1 * (4 : Int32)) + a2) (lN_ (rF a0 1)) = true then (some ((h.1 (rF a0 1) (((a1 * (4 : Int32)) + a2)).toNatClampNeg), h)) else none)
def g_X5_fits_20 (a0 : Int32) (a1 : Int32) (z0 : Int32) (z1 : Int32) (h : Hp) : Option (Int32 × Hp) := (if z0 = z1 then (some ((1 : Int32), h)) else (some ((0 : Int32), h)))
def f_X5_fits (a0 : Int32) (a1 : Int32) (h : Hp) : Option (Int32 × Hp) := (if a0 = (6 : Int32) then (some ((1 : Int32), h)) else (if a0 = (7 : Int32) then g_X5_fits_20 a0 a1 a1 (0 : Int32) h else g_X5_fits_20 a0 a1 a1 a0 h))
def g_X4_goOver_132 (a0 : Nat) (a1 : Int32) (a2 : Int32) (k22 : Int32 → Int32 → Int32 → Int32 → Int32 → Int32 → Hp → Option (Int32 × Hp)) (x3 : Int32) (x4 : Int32) (x5 : Int32) (x7 : Int32) (x8 : Int32) (x9 : Int32) (h : Hp) : Option (Int32 × Hp) := k22 x3 x4 x5 x9 x7 (x8 + (1 : Int32)) h
def g_X4_goOver_108 (a0 : Nat) (a1 : Int32) (a2 : Int32) (k22 : Int32 → Int32 → Int32 → Int32 → Int32 → Int32 → Hp → Option (Int32 × Hp)) (x3 : Int32) (x4 : Int32) (x5 : Int32) (x7 : Int32) (x8 : Int32) (x9 : Int32) (z0 : Int32) (h : Hp) : Option (Int32 × Hp) := (if z0 = 0 then g_X4_goOver_132 a0 a1 a2 k22 x3 x4 x5 x7 x8 x9 h else g_X4_goOver_132 a0 a1 a2 k22 x3 (x4 + (z0 * x5)) (x5 * (10 : Int32)) x7 x8 x9 h)
def g_X4_goOver_90 (a0 : Nat) (a1 : Int32) (a2 : Int32) (k22 : Int32 → Int32 → Int32 → Int32 → Int32 → Int32 → Hp → Option (Int32 × Hp)) (x3 : Int32) (x4 : Int32) (x5 : Int32) (x7 : Int32) (x8 : Int32) (x9 : Int32) (z0 : Int32) (h : Hp) : Option (Int32 × Hp) := (if z0 = 0 then g_X4_goOver_108 a0 a1 a2 k22 x3 x4 x5 x7 x8 x9 x9 h else (bnd (f_X4_signOf a0 a1 (1 : Int32) h) (fun r5 h4 => g_X4_goOver_108 a0 a1 a2 k22 x3 x4 x5 x7 x8 x9 r5 h4)))
def g_X4_goOver_89 (a0 : Nat) (a1 : Int32) (a2 : Int32) (k22 : Int32 → Int32 → Int32 → Int32 → Int32 → Int32 → Hp → Option (Int32 × Hp)) (x3 : Int32) (x4 : Int32) (x5 : Int32) (x7 : Int32) (x8 : Int32) (x9 : Int32) (h : Hp) : Option (Int32 × Hp) := g_X4_goOver_90 a0 a1 a2 k22 x3 x4 x5 x7 x8 x9 (0 : Int32) h
def g_X4_goOver_22 (a0 : Nat) (a1 : Int32) (a2 : Int32) (k22 : Int32 → Int32 → Int32 → Int32 → Int32 → Int32 → Hp → Option (Int32 × Hp)) (x3 : Int32) (x4 : Int32) (x5 : Int32) (x6 : Int32) (x7 : Int32) (x8 : Int32) (h : Hp) : Option (Int32 × Hp) := (if (6 : Int32) ≤ x8 then (some (x4, h)) else (if x7 ≤ 0 then (some (x4, h)) else (if (x7 - x7 / (10 : Int32) * (10 : Int32)) = x3 then (bnd (f_X4_signOf a0 a1 (2 : Int32) h) (fun r11 h10 => (bnd (f_X5_fits r11 ((x7 / (10 : Int32)) - (x7 / (10 : Int32)) / (10 : Int32) * (10 : Int32)) h10) (fun r14 h13 => (if r14 = 0 then g_X4_goOver_89 a0 a1 a2 k22 x3 x4 x5 (x7 / (10 : Int32)) x8 (x7 - x7 / (10 : Int32) * (10 : Int32)) h13 else (bnd (f_X4_signOf a0 a1 (3 : Int32) h13) (fun r18 h17 => (bnd (f_X5_fits r18 x6 h17) (fun r21 h20 => (if r21 = 0 then g_X4_goOver_89 a0 a1 a2 k22 x3 x4 x5 (x7 / (10 : Int32)) x8 (x7 - x7 / (10 : Int32) * (10 : Int32)) h20 else g_X4_goOver_90 a0 a1 a2 k22 x3 x4 x5 (x7 / (10 : Int32)) x8 (x7 - x7 / (10 : Int32) * (10 : Int32)) (1 : Int32) h20)))))))))) else g_X4_goOver_89 a0 a1 a2 k22 x3 x4 x5 (x7 / (10 : Int32)) x8 (x7 - x7 / (10 : Int32) * (10 : Int32)) h)))
def f_X4_goOver_22 (a0 : Nat) (a1 : Int32) (a2 : Int32) : Nat → Int32 → Int32 → Int32 → Int32 → Int32 → Int32 → Hp → Option (Int32 × Hp)
  | 0 => fun _ _ _ _ _ _ _ => none
  | n + 1 => fun x3 x4 x5 x6 x7 x8 h => g_X4_goOver_22 a0 a1 a2 (f_X4_goOver_22 a0 a1 a2 n) x3 x4 x5 x6 x7 x8 h
def f_X4_goOver (a0 : Nat) (a1 : Int32) (a2 : Int32) (h : Hp) : Option (Int32 × Hp) := (bnd (f_X4_signOf a0 a1 (0 : Int32) h) (fun r25 h24 => f_X4_goOver_22 a0 a1 a2 FU r25 (0 : Int32) (1 : Int32) (0 : Int32) a2 (0 : Int32) h24))
def g_X4_walk_5 (a0 : Nat) (a1 : Int32) (a2 : Int32) (k5 : Int32 → Int32 → Hp → Option (Int32 × Hp)) (x3 : Int32) (x4 : Int32) (h : Hp) : Option (Int32 × Hp) := (if a2 ≤ x4 then (some (x3, h)) else (if okI x4 (lN_ (rF a0 2)) = true then (bnd (f_X4_goOver a0 (h.1 (rF a0 2) (x4).toNatClampNeg) x3 h) (fun r5 h4 => k5 r5 (x4 + (1 : Int32)) h4)) else none))
def f_X4_walk_5 (a0 : Nat) (a1 : Int32) (a2 : Int32) : Nat → Int32 → Int32 → Hp → Option (Int32 × Hp)
  | 0 => fun _ _ _ => none
  | n + 1 => fun x3 x4 h => g_X4_walk_5 a0 a1 a2 (f_X4_walk_5 a0 a1 a2 n) x3 x4 h
def f_X4_walk (a0 : Nat) (a1 : Int32) (a2 : Int32) (h : Hp) : Option (Int32 × Hp) := f_X4_walk_5 a0 a1 a2 FU a1 (0 : Int32) h
def g_X5_lengthOf_6 (a0 : Int32) (k6 : Int32 → Int32 → Int32 → Hp → Option (Int32 × Hp)) (x1 : Int32) (x2 : Int32) (x3 : Int32) (h : Hp) : Option (Int32 × Hp) := (if (6 : Int32) ≤ x3 then (some (x1, h)) else (if x2 ≤ 0 then (some (x1, h)) else k6 (x1 + (1 : Int32)) (x2 / (10 : Int32)) (x3 + (1 : Int32)) h))
def f_X5_lengthOf_6 (a0 : Int32) : Nat → Int32 → Int32 → Int32 → Hp → Option (Int32 × Hp)
  | 0 => fun _ _ _ _ => none
  | n + 1 => fun x1 x2 x3 h => g_X5_lengthOf_6 a0 (f_X5_lengthOf_6 a0 n) x1 x2 x3 h
def f_X5_lengthOf (a0 : Int32) (h : Hp) : Option (Int32 × Hp) := f_X5_lengthOf_6 a0 FU (0 : Int32) a0 (0 : Int32) h
def g_X5_letterAt_20 (a0 : Int32) (a1 : Int32) (k20 : Int32 → Int32 → Int32 → Hp → Option (Int32 × Hp)) (x2 : Int32) (x3 : Int32) (x4 : Int32) (h : Hp) : Option (Int32 × Hp) := (if x2 ≤ x4 then (some ((x3 - x3 / (10 : Int32) * (10 : Int32)), h)) else k20 x2 (x3 / (10 : Int32)) (x4 + (1 : Int32)) h)
def f_X5_letterAt_20 (a0 : Int32) (a1 : Int32) : Nat → Int32 → Int32 → Int32 → Hp → Option (Int32 × Hp)
  | 0 => fun _ _ _ _ => none
  | n + 1 => fun x2 x3 x4 h => g_X5_letterAt_20 a0 a1 (f_X5_letterAt_20 a0 a1 n) x2 x3 x4 h
def f_X5_letterAt (a0 : Int32) (a1 : Int32) (h : Hp) : Option (Int32 × Hp) := (bnd (f_X5_lengthOf a0 h) (fun r4 h3 => (if 0 ≤ ((r4 - (1 : Int32)) - a1) then f_X5_letterAt_20 a0 a1 FU ((r4 - (1 : Int32)) - a1) a0 (0 : Int32) h3 else (some ((0 : Int32), h3)))))
def g_X1_agreeWith_83 (a0 : Nat) (a1 : Int32) (a2 : Nat) (a3 : Nat) (k3 : Int32 → Hp → Option (Int32 × Hp)) (x4 : Int32) (z0 : Int32) (h : Hp) : Option (Int32 × Hp) := (if okI x4 (lN_ (rF a0 3)) = true then (if z0 = (h.1 (rF a0 3) (x4).toNatClampNeg) then k3 (x4 + (1 : Int32)) h else (some ((0 : Int32), h))) else none)
def g_X1_agreeWith_54 (a0 : Nat) (a1 : Int32) (a2 : Nat) (a3 : Nat) (k3 : Int32 → Hp → Option (Int32 × Hp)) (x4 : Int32) (z0 : Int32) (h : Hp) : Option (Int32 × Hp) := (if okI x4 (lN_ (rF a0 1)) = true then (bnd (f_X5_letterAt z0 (h.1 (rF a0 1) (x4).toNatClampNeg) h) (fun r6 h5 => (if okI x4 (lN_ (rF a0 2)) = true then (if r6 = (h5.1 (rF a0 2) (x4).toNatClampNeg) then g_X1_agreeWith_83 a0 a1 a2 a3 k3 x4 (1 : Int32) h5 else g_X1_agreeWith_83 a0 a1 a2 a3 k3 x4 (0 : Int32) h5) else none))) else none)
def g_X1_agreeWith_3 (a0 : Nat) (a1 : Int32) (a2 : Nat) (a3 : Nat) (k3 : Int32 → Hp → Option (Int32 × Hp)) (x4 : Int32) (h : Hp) : Option (Int32 × Hp) := (if (h.1 a0 4) ≤ x4 then (some ((1 : Int32), h)) else (if okI x4 (lN_ (rF a0 0)) = true then (bnd (f_X2_hasEnding a2 (h.1 (rF a0 0) (x4).toNatClampNeg) h) (fun r13 h12 => (if r13 = 0 then g_X1_agreeWith_54 a0 a1 a2 a3 k3 x4 (0 : Int32) h12 else (if okI x4 (lN_ (rF a0 0)) = true then (if okI (h12.1 (rF a0 0) (x4).toNatClampNeg) (lN_ (rF a2 1)) = true then (bnd (f_X5_join a1 (h12.1 (rF a2 1) ((h12.1 (rF a0 0) (x4).toNatClampNeg)).toNatClampNeg) h12) (fun r19 h18 => (bnd (f_X4_walk a3 r19 (h18.1 a3 5) h18) (fun r22 h21 => g_X1_agreeWith_54 a0 a1 a2 a3 k3 x4 r22 h21)))) else none) else none)))) else none))
def f_X1_agreeWith_3 (a0 : Nat) (a1 : Int32) (a2 : Nat) (a3 : Nat) : Nat → Int32 → Hp → Option (Int32 × Hp)
  | 0 => fun _ _ => none
  | n + 1 => fun x4 h => g_X1_agreeWith_3 a0 a1 a2 a3 (f_X1_agreeWith_3 a0 a1 a2 a3 n) x4 h
def f_X1_agreeWith (a0 : Nat) (a1 : Int32) (a2 : Nat) (a3 : Nat) (h : Hp) : Option (Int32 × Hp) := f_X1_agreeWith_3 a0 a1 a2 a3 FU (0 : Int32) h
def f_X2_takeFrom (a0 : Nat) (a1 : Nat) (h : Hp) : Option Hp := (if (4 : Int32).toNatClampNeg ≤ lN_ (rF a1 2) ∧ (4 : Int32).toNatClampNeg ≤ lN_ (rF a0 0) then (if (3 : Int32).toNatClampNeg ≤ lN_ (rF a1 3) ∧ (3 : Int32).toNatClampNeg ≤ lN_ (rF a0 1) then (some (sI (sI (sA (sA h (rF a0 0) (va_cpy (h.1 (rF a1 2)) (h.1 (rF a0 0)) 0 0 (4 : Int32).toNatClampNeg)) (rF a0 1) (va_cpy ((sA h (rF a0 0) (va_cpy (h.1 (rF a1 2)) (h.1 (rF a0 0)) 0 0 (4 : Int32).toNatClampNeg)).1 (rF a1 3)) ((sA h (rF a0 0) (va_cpy (h.1 (rF a1 2)) (h.1 (rF a0 0)) 0 0 (4 : Int32).toNatClampNeg)).1 (rF a0 1)) 0 0 (3 : Int32).toNatClampNeg)) a0 2 ((sA (sA h (rF a0 0) (va_cpy (h.1 (rF a1 2)) (h.1 (rF a0 0)) 0 0 (4 : Int32).toNatClampNeg)) (rF a0 1) (va_cpy ((sA h (rF a0 0) (va_cpy (h.1 (rF a1 2)) (h.1 (rF a0 0)) 0 0 (4 : Int32).toNatClampNeg)).1 (rF a1 3)) ((sA h (rF a0 0) (va_cpy (h.1 (rF a1 2)) (h.1 (rF a0 0)) 0 0 (4 : Int32).toNatClampNeg)).1 (rF a0 1)) 0 0 (3 : Int32).toNatClampNeg)).1 a1 5)) a0 3 ((sI (sA (sA h (rF a0 0) (va_cpy (h.1 (rF a1 2)) (h.1 (rF a0 0)) 0 0 (4 : Int32).toNatClampNeg)) (rF a0 1) (va_cpy ((sA h (rF a0 0) (va_cpy (h.1 (rF a1 2)) (h.1 (rF a0 0)) 0 0 (4 : Int32).toNatClampNeg)).1 (rF a1 3)) ((sA h (rF a0 0) (va_cpy (h.1 (rF a1 2)) (h.1 (rF a0 0)) 0 0 (4 : Int32).toNatClampNeg)).1 (rF a0 1)) 0 0 (3 : Int32).toNatClampNeg)) a0 2 ((sA (sA h (rF a0 0) (va_cpy (h.1 (rF a1 2)) (h.1 (rF a0 0)) 0 0 (4 : Int32).toNatClampNeg)) (rF a0 1) (va_cpy ((sA h (rF a0 0) (va_cpy (h.1 (rF a1 2)) (h.1 (rF a0 0)) 0 0 (4 : Int32).toNatClampNeg)).1 (rF a1 3)) ((sA h (rF a0 0) (va_cpy (h.1 (rF a1 2)) (h.1 (rF a0 0)) 0 0 (4 : Int32).toNatClampNeg)).1 (rF a0 1)) 0 0 (3 : Int32).toNatClampNeg)).1 a1 5)).1 a1 6))) else none) else none)
def f_X2_hasRoot (a0 : Nat) (a1 : Int32) (h : Hp) : Option (Int32 × Hp) := (if a1 < 0 then (some ((0 : Int32), h)) else (if (h.1 a0 2) ≤ a1 then (some ((0 : Int32), h)) else (some ((1 : Int32), h))))
def f_X2_hasPair (a0 : Nat) (a1 : Int32) (a2 : Int32) (h : Hp) : Option (Int32 × Hp) := (bnd (f_X2_hasRoot a0 a1 h) (fun r3 h2 => (if r3 = 0 then (some ((0 : Int32), h2)) else (bnd (f_X2_hasEnding a0 a2 h2) (fun r7 h6 => (if r7 = 0 then (some ((0 : Int32), h6)) else (some ((1 : Int32), h6))))))))
def f_X2_joined (a0 : Nat) (a1 : Int32) (a2 : Int32) (h : Hp) : Option (Int32 × Hp) := (if okI a1 (lN_ (rF a0 0)) = true then (if okI a2 (lN_ (rF a0 1)) = true then (bnd (f_X5_join (h.1 (rF a0 0) (a1).toNatClampNeg) (h.1 (rF a0 1) (a2).toNatClampNeg) h) (fun r5 h4 => (some (r5, h4)))) else none) else none)
def f_X3_append (a0 : Nat) (a1 : Int32) (h : Hp) : Option (Int32 × Hp) := (if (h.1 a0 1) < (60 : Int32) then (if okI (h.1 a0 1) (lN_ (rF a0 0)) = true then (some ((1 : Int32), (sI (sI h (rF a0 0) ((h.1 a0 1)).toNatClampNeg a1) a0 1 (((sI h (rF a0 0) ((h.1 a0 1)).toNatClampNeg a1).1 a0 1) + (1 : Int32))))) else none) else (some ((0 : Int32), h)))
def f_X3_beginReading (a0 : Nat) (h : Hp) : Option Hp := (some (sI (sI (sI (sI (sI (sI h a0 5 (0 : Int32)) a0 6 (0 : Int32)) a0 7 (0 : Int32)) a0 8 (0 : Int32)) a0 11 (0 : Int32)) a0 12 (0 : Int32)))
def g_X3_isOfLetters_16 (a0 : Nat) (h : Hp) : Option (Int32 × Hp) := (some ((1 : Int32), h))
def f_X3_isOfLetters (a0 : Nat) (h : Hp) : Option (Int32 × Hp) := (if (h.1 a0 11) = (1 : Int32) then g_X3_isOfLetters_16 a0 h else (if (h.1 a0 11) = (2 : Int32) then g_X3_isOfLetters_16 a0 h else (some ((0 : Int32), h))))
def f_X3_needsMore (a0 : Nat) (h : Hp) : Option (Int32 × Hp) := (bnd (f_X3_isOfLetters a0 h) (fun r3 h2 => (if r3 = 0 then (if (h2.1 a0 11) = (3 : Int32) then (if (4 : Int32) ≤ (h2.1 a0 12) then (some ((0 : Int32), h2)) else (some ((1 : Int32), h2))) else (some ((0 : Int32), h2))) else (if (h2.1 a0 12) = 0 then (some ((1 : Int32), h2)) else (some ((0 : Int32), h2))))))
def f_X3_isLetter (a0 : Int32) (h : Hp) : Option (Int32 × Hp) := (if a0 < (97 : Int32) then (some ((0 : Int32), h)) else (if (101 : Int32) < a0 then (some ((0 : Int32), h)) else (some ((1 : Int32), h))))
def f_X3_signMeant (a0 : Int32) (h : Hp) : Option (Int32 × Hp) := (bnd (f_X3_isLetter a0 h) (fun r3 h2 => (if r3 = 0 then (if a0 = 42 then (some ((6 : Int32), h2)) else (if a0 = 43 then (some ((-1 : Int32), h2)) else (if a0 = 44 then (some ((-1 : Int32), h2)) else (if a0 = 45 then (some ((0 : Int32), h2)) else (if a0 = 46 then (some ((7 : Int32), h2)) else (some ((-1 : Int32), h2))))))) else (some (((a0 - (97 : Int32)) + (1 : Int32)), h2)))))
def f_X3_addLetter (a0 : Nat) (a1 : Nat) (a2 : Int32) (a3 : Int32) (a4 : Int32) (h : Hp) : Option (Int32 × Hp) := (if a3 ≤ (h.1 a0 12) then (some ((0 : Int32), h)) else (bnd (f_X3_isLetter a4 h) (fun r4 h3 => (if r4 = 0 then (some ((0 : Int32), h3)) else (if a2 < 0 then (some ((0 : Int32), h3)) else (if a2 < (Int32.ofNat (lN_ a1)) then (if okI a2 (lN_ a1) = true then (bnd (f_X3_signMeant a4 h3) (fun r11 h10 => (if okI a2 (lN_ a1) = true then (some ((1 : Int32), (sI h10 a1 (a2).toNatClampNeg (((10 : Int32) * (h3.1 a1 (a2).toNatClampNeg)) + r11)))) else none))) else none) else (some ((0 : Int32), h3))))))))
def f_X6_allowsSign (a0 : Int32) (a1 : Int32) (h : Hp) : Option (Int32 × Hp) := (if a0 = 0 then (if a1 < (1 : Int32) then (some ((0 : Int32), h)) else (if (5 : Int32) < a1 then (some ((0 : Int32), h)) else (some ((1 : Int32), h)))) else (if a0 = 1 then (if a1 < 0 then (some ((0 : Int32), h)) else (if (5 : Int32) < a1 then (some ((0 : Int32), h)) else (some ((1 : Int32), h)))) else (if a0 = 2 then (if a1 < (1 : Int32) then (some ((0 : Int32), h)) else (if (7 : Int32) < a1 then (some ((0 : Int32), h)) else (some ((1 : Int32), h)))) else (if a0 = 3 then (if a1 < (1 : Int32) then (some ((0 : Int32), h)) else (if (7 : Int32) < a1 then (some ((0 : Int32), h)) else (some ((1 : Int32), h)))) else (some ((0 : Int32), h))))))
def f_X3_addSign (a0 : Nat) (a1 : Int32) (h : Hp) : Option (Int32 × Hp) := (bnd (f_X3_signMeant a1 h) (fun r3 h2 => (bnd (f_X6_allowsSign (h2.1 a0 12) r3 h2) (fun r6 h5 => (if r6 = 0 then (some ((0 : Int32), h5)) else (if ((((h2.1 a0 7) - (1 : Int32)) * (4 : Int32)) + (h2.1 a0 12)) < 0 then (some ((0 : Int32), h5)) else (if ((((h2.1 a0 7) - (1 : Int32)) * (4 : Int32)) + (h2.1 a0 12)) < (Int32.ofNat (lN_ (rF a0 4))) then (if okI ((((h2.1 a0 7) - (1 : Int32)) * (4 : Int32)) + (h2.1 a0 12)) (lN_ (rF a0 4)) = true then (some ((1 : Int32), (sI h5 (rF a0 4) (((((h2.1 a0 7) - (1 : Int32)) * (4 : Int32)) + (h2.1 a0 12))).toNatClampNeg r3))) else none) else (some ((0 : Int32), h5)))))))))
def g_X3_goOnWith_76 (a0 : Nat) (a1 : Int32) (x2 : Int32) (z0 : Nat) (z1 : Int32) (z2 : Int32) (h : Hp) : Option (Int32 × Hp) := (if okZ x2 = true then some (x2, (sI h z0 12 (z1 + z2))) else none)
def g_X3_goOnWith_62 (a0 : Nat) (a1 : Int32) (x2 : Int32) (h : Hp) : Option (Int32 × Hp) := (if x2 = 0 then g_X3_goOnWith_76 a0 a1 x2 a0 (h.1 a0 12) (0 : Int32) h else g_X3_goOnWith_76 a0 a1 x2 a0 (h.1 a0 12) (1 : Int32) h)
def f_X3_goOnWith (a0 : Nat) (a1 : Int32) (h : Hp) : Option (Int32 × Hp) := (if (h.1 a0 11) = (1 : Int32) then (bnd (f_X3_addLetter a0 (rF a0 2) ((h.1 a0 5) - (1 : Int32)) (4 : Int32) a1 h) (fun r13 h12 => g_X3_goOnWith_62 a0 a1 r13 h12)) else (if (h.1 a0 11) = (2 : Int32) then (bnd (f_X3_addLetter a0 (rF a0 3) ((h.1 a0 6) - (1 : Int32)) (2 : Int32) a1 h) (fun r10 h9 => g_X3_goOnWith_62 a0 a1 r10 h9)) else (bnd (f_X3_addSign a0 a1 h) (fun r7 h6 => g_X3_goOnWith_62 a0 a1 r7 h6))))
def g_X3_beginPart_118 (a0 : Nat) (a1 : Int32) (h : Hp) : Option (Int32 × Hp) := (some ((1 : Int32), (sI (sI h a0 12 (0 : Int32)) a0 8 (((sI h a0 12 (0 : Int32)).1 a0 8) + (1 : Int32)))))
def g_X3_beginPart_84 (a0 : Nat) (a1 : Int32) (h : Hp) : Option (Int32 × Hp) := (if a1 = (67 : Int32) then (if (4 : Int32) ≤ (h.1 a0 7) then (some ((0 : Int32), h)) else g_X3_beginPart_118 a0 a1 (sI (sI h a0 7 ((h.1 a0 7) + (1 : Int32))) a0 11 (3 : Int32))) else (some ((0 : Int32), h)))
def g_X3_beginPart_42 (a0 : Nat) (a1 : Int32) (h : Hp) : Option (Int32 × Hp) := (if a1 = (69 : Int32) then (if (3 : Int32) ≤ (h.1 a0 6) then g_X3_beginPart_84 a0 a1 h else (if okI (h.1 a0 6) (lN_ (rF a0 3)) = true then g_X3_beginPart_118 a0 a1 (sI (sI (sI h (rF a0 3) ((h.1 a0 6)).toNatClampNeg (0 : Int32)) a0 6 (((sI h (rF a0 3) ((h.1 a0 6)).toNatClampNeg (0 : Int32)).1 a0 6) + (1 : Int32))) a0 11 (2 : Int32)) else none)) else g_X3_beginPart_84 a0 a1 h)
def f_X3_beginPart (a0 : Nat) (a1 : Int32) (h : Hp) : Option (Int32 × Hp) := (if a1 = (82 : Int32) then (if (4 : Int32) ≤ (h.1 a0 5) then g_X3_beginPart_42 a0 a1 h else (if okI (h.1 a0 5) (lN_ (rF a0 2)) = true then g_X3_beginPart_118 a0 a1 (sI (sI (sI h (rF a0 2) ((h.1 a0 5)).toNatClampNeg (0 : Int32)) a0 5 (((sI h (rF a0 2) ((h.1 a0 5)).toNatClampNeg (0 : Int32)).1 a0 5) + (1 : Int32))) a0 11 (1 : Int32)) else none)) else g_X3_beginPart_42 a0 a1 h)
def g_X3_read_91 (a0 : Nat) (k6 : Int32 → Hp → Option Hp) (x1 : Int32) (x3 : Int32) (z0 : Int32) (h : Hp) : Option Hp := (if z0 = 0 then (some (sI (sI h a0 9 x1) a0 10 x3)) else k6 (x1 + (1 : Int32)) h)
def g_X3_read_63 (a0 : Nat) (k6 : Int32 → Hp → Option Hp) (x1 : Int32) (x2 : Int32) (z0 : Int32) (h : Hp) : Option Hp := (if x2 = 0 then (if okI x1 (lN_ (rF a0 0)) = true then (bnd (f_X3_beginPart a0 (h.1 (rF a0 0) (x1).toNatClampNeg) h) (fun r6 h5 => g_X3_read_91 a0 k6 x1 z0 r6 h5)) else none) else (if okI x1 (lN_ (rF a0 0)) = true then (bnd (f_X3_goOnWith a0 (h.1 (rF a0 0) (x1).toNatClampNeg) h) (fun r10 h9 => g_X3_read_91 a0 k6 x1 z0 r10 h9)) else none))
def g_X3_read_45 (a0 : Nat) (k6 : Int32 → Hp → Option Hp) (x1 : Int32) (z0 : Int32) (h : Hp) : Option Hp := (if z0 = 0 then g_X3_read_63 a0 k6 x1 z0 (h.1 a0 8) h else g_X3_read_63 a0 k6 x1 z0 ((h.1 a0 8) - (1 : Int32)) h)
def g_X3_read_40 (a0 : Nat) (k6 : Int32 → Hp → Option Hp) (x1 : Int32) (h : Hp) : Option Hp := g_X3_read_45 a0 k6 x1 (1 : Int32) h
def g_X3_read_44 (a0 : Nat) (k6 : Int32 → Hp → Option Hp) (x1 : Int32) (h : Hp) : Option Hp := g_X3_read_45 a0 k6 x1 (0 : Int32) h
def g_X3_read_132 (a0 : Nat) (z0 : Nat) (z1 : Int32) (h : Hp) : Option Hp := (bnd (f_X3_needsMore a0 (sI h z0 9 z1)) (fun r14 h13 => (if r14 = 0 then (some (sI h13 a0 10 (-9 : Int32))) else (some (sI h13 a0 10 ((h13.1 a0 8) - (1 : Int32)))))))
def g_X3_read_6 (a0 : Nat) (k6 : Int32 → Hp → Option Hp) (x1 : Int32) (h : Hp) : Option Hp := (if (h.1 a0 1) ≤ x1 then (bnd (f_X3_needsMore a0 h) (fun r19 h18 => (if r19 = 0 then g_X3_read_132 a0 a0 (-9 : Int32) h18 else g_X3_read_132 a0 a0 (h18.1 a0 1) h18))) else (bnd (f_X3_needsMore a0 h) (fun r23 h22 => (if r23 = 0 then (bnd (f_X3_isOfLetters a0 h22) (fun r27 h26 => (if r27 = 0 then g_X3_read_44 a0 k6 x1 h26 else (if okI x1 (lN_ (rF a0 0)) = true then (bnd (f_X3_isLetter (h26.1 (rF a0 0) (x1).toNatClampNeg) h26) (fun r32 h31 => (if r32 = 0 then g_X3_read_44 a0 k6 x1 h31 else g_X3_read_40 a0 k6 x1 h31))) else none)))) else g_X3_read_40 a0 k6 x1 h22))))
def f_X3_read_6 (a0 : Nat) : Nat → Int32 → Hp → Option Hp
  | 0 => fun _ _ => none
  | n + 1 => fun x1 h => g_X3_read_6 a0 (f_X3_read_6 a0 n) x1 h
def f_X3_read (a0 : Nat) (h : Hp) : Option Hp := ((f_X3_beginReading a0 h).bind (fun h35 => f_X3_read_6 a0 FU (0 : Int32) h35))
def g_X4_orderByNumber_2 (a0 : Nat) (k2 : Int32 → Hp → Option Hp) (x1 : Int32) (h : Hp) : Option Hp := (if (4 : Int32) ≤ x1 then (some h) else (if okI x1 (lN_ (rF a0 2)) = true then k2 (x1 + (1 : Int32)) (sI h (rF a0 2) (x1).toNatClampNeg x1) else none))
def f_X4_orderByNumber_2 (a0 : Nat) : Nat → Int32 → Hp → Option Hp
  | 0 => fun _ _ => none
  | n + 1 => fun x1 h => g_X4_orderByNumber_2 a0 (f_X4_orderByNumber_2 a0 n) x1 h
def f_X4_orderByNumber (a0 : Nat) (h : Hp) : Option Hp := f_X4_orderByNumber_2 a0 FU (0 : Int32) h
def g_X4_beginWith_29 (a0 : Nat) (a1 : Nat) (k29 : Int32 → Hp → Option Hp) (x2 : Int32) (h : Hp) : Option Hp := (if (12 : Int32) ≤ x2 then (some h) else (if okI x2 (lN_ (rF a0 3)) = true then k29 (x2 + (1 : Int32)) (sI h (rF a0 3) (x2).toNatClampNeg (-9 : Int32)) else none))
def f_X4_beginWith_29 (a0 : Nat) (a1 : Nat) : Nat → Int32 → Hp → Option Hp
  | 0 => fun _ _ => none
  | n + 1 => fun x2 h => g_X4_beginWith_29 a0 a1 (f_X4_beginWith_29 a0 a1 n) x2 h
def f_X4_beginWith (a0 : Nat) (a1 : Nat) (h : Hp) : Option Hp := (if (16 : Int32).toNatClampNeg ≤ lN_ (rF a1 4) ∧ (16 : Int32).toNatClampNeg ≤ lN_ (rF a0 1) then ((f_X4_orderByNumber a0 (sI (sA h (rF a0 1) (va_cpy (h.1 (rF a1 4)) (h.1 (rF a0 1)) 0 0 (16 : Int32).toNatClampNeg)) a0 5 ((sA h (rF a0 1) (va_cpy (h.1 (rF a1 4)) (h.1 (rF a0 1)) 0 0 (16 : Int32).toNatClampNeg)).1 a1 7))).bind (fun h6 => f_X4_beginWith_29 a0 a1 FU (0 : Int32) h6)) else none)
def f_X4_takeFrom (a0 : Nat) (a1 : Nat) (h : Hp) : Option Hp := (if (16 : Int32).toNatClampNeg ≤ lN_ (rF a1 1) ∧ (16 : Int32).toNatClampNeg ≤ lN_ (rF a0 1) then (if (4 : Int32).toNatClampNeg ≤ lN_ (rF a1 2) ∧ (4 : Int32).toNatClampNeg ≤ lN_ (rF a0 2) then (if (12 : Int32).toNatClampNeg ≤ lN_ (rF a1 3) ∧ (12 : Int32).toNatClampNeg ≤ lN_ (rF a0 3) then (some (sI (sA (sA (sA h (rF a0 1) (va_cpy (h.1 (rF a1 1)) (h.1 (rF a0 1)) 0 0 (16 : Int32).toNatClampNeg)) (rF a0 2) (va_cpy ((sA h (rF a0 1) (va_cpy (h.1 (rF a1 1)) (h.1 (rF a0 1)) 0 0 (16 : Int32).toNatClampNeg)).1 (rF a1 2)) ((sA h (rF a0 1) (va_cpy (h.1 (rF a1 1)) (h.1 (rF a0 1)) 0 0 (16 : Int32).toNatClampNeg)).1 (rF a0 2)) 0 0 (4 : Int32).toNatClampNeg)) (rF a0 3) (va_cpy ((sA (sA h (rF a0 1) (va_cpy (h.1 (rF a1 1)) (h.1 (rF a0 1)) 0 0 (16 : Int32).toNatClampNeg)) (rF a0 2) (va_cpy ((sA h (rF a0 1) (va_cpy (h.1 (rF a1 1)) (h.1 (rF a0 1)) 0 0 (16 : Int32).toNatClampNeg)).1 (rF a1 2)) ((sA h (rF a0 1) (va_cpy (h.1 (rF a1 1)) (h.1 (rF a0 1)) 0 0 (16 : Int32).toNatClampNeg)).1 (rF a0 2)) 0 0 (4 : Int32).toNatClampNeg)).1 (rF a1 3)) ((sA (sA h (rF a0 1) (va_cpy (h.1 (rF a1 1)) (h.1 (rF a0 1)) 0 0 (16 : Int32).toNatClampNeg)) (rF a0 2) (va_cpy ((sA h (rF a0 1) (va_cpy (h.1 (rF a1 1)) (h.1 (rF a0 1)) 0 0 (16 : Int32).toNatClampNeg)).1 (rF a1 2)) ((sA h (rF a0 1) (va_cpy (h.1 (rF a1 1)) (h.1 (rF a0 1)) 0 0 (16 : Int32).toNatClampNeg)).1 (rF a0 2)) 0 0 (4 : Int32).toNatClampNeg)).1 (rF a0 3)) 0 0 (12 : Int32).toNatClampNeg)) a0 5 ((sA (sA (sA h (rF a0 1) (va_cpy (h.1 (rF a1 1)) (h.1 (rF a0 1)) 0 0 (16 : Int32).toNatClampNeg)) (rF a0 2) (va_cpy ((sA h (rF a0 1) (va_cpy (h.1 (rF a1 1)) (h.1 (rF a0 1)) 0 0 (16 : Int32).toNatClampNeg)).1 (rF a1 2)) ((sA h (rF a0 1) (va_cpy (h.1 (rF a1 1)) (h.1 (rF a0 1)) 0 0 (16 : Int32).toNatClampNeg)).1 (rF a0 2)) 0 0 (4 : Int32).toNatClampNeg)) (rF a0 3) (va_cpy ((sA (sA h (rF a0 1) (va_cpy (h.1 (rF a1 1)) (h.1 (rF a0 1)) 0 0 (16 : Int32).toNatClampNeg)) (rF a0 2) (va_cpy ((sA h (rF a0 1) (va_cpy (h.1 (rF a1 1)) (h.1 (rF a0 1)) 0 0 (16 : Int32).toNatClampNeg)).1 (rF a1 2)) ((sA h (rF a0 1) (va_cpy (h.1 (rF a1 1)) (h.1 (rF a0 1)) 0 0 (16 : Int32).toNatClampNeg)).1 (rF a0 2)) 0 0 (4 : Int32).toNatClampNeg)).1 (rF a1 3)) ((sA (sA h (rF a0 1) (va_cpy (h.1 (rF a1 1)) (h.1 (rF a0 1)) 0 0 (16 : Int32).toNatClampNeg)) (rF a0 2) (va_cpy ((sA h (rF a0 1) (va_cpy (h.1 (rF a1 1)) (h.1 (rF a0 1)) 0 0 (16 : Int32).toNatClampNeg)).1 (rF a1 2)) ((sA h (rF a0 1) (va_cpy (h.1 (rF a1 1)) (h.1 (rF a0 1)) 0 0 (16 : Int32).toNatClampNeg)).1 (rF a0 2)) 0 0 (4 : Int32).toNatClampNeg)).1 (rF a0 3)) 0 0 (12 : Int32).toNatClampNeg)).1 a1 5))) else none) else none) else none)
def f_X4_hasChange (a0 : Nat) (a1 : Int32) (h : Hp) : Option (Int32 × Hp) := (if a1 < 0 then (some ((0 : Int32), h)) else (if (h.1 a0 5) ≤ a1 then (some ((0 : Int32), h)) else (some ((1 : Int32), h))))
def f_X4_allChanges (a0 : Nat) (h : Hp) : Option (Int32 × Hp) := (some ((((1 : Int32) <<< ((h.1 a0 5) &&& (31 : Int32))) - (1 : Int32)), h))
def f_X4_formOf (a0 : Nat) (a1 : Int32) (a2 : Int32) (h : Hp) : Option (Int32 × Hp) := (if okI ((a1 * (3 : Int32)) + a2) (lN_ (rF a0 3)) = true then (some ((h.1 (rF a0 3) (((a1 * (3 : Int32)) + a2)).toNatClampNeg), h)) else none)
def g_X4_formCount_24 (a0 : Nat) (k4 : Int32 → Int32 → Hp → Option (Int32 × Hp)) (x1 : Int32) (x2 : Int32) (h : Hp) : Option (Int32 × Hp) := k4 x1 (x2 + (1 : Int32)) h
def g_X4_formCount_4 (a0 : Nat) (k4 : Int32 → Int32 → Hp → Option (Int32 × Hp)) (x1 : Int32) (x2 : Int32) (h : Hp) : Option (Int32 × Hp) := (if (12 : Int32) ≤ x2 then (some (x1, h)) else (if okI x2 (lN_ (rF a0 3)) = true then (if (h.1 (rF a0 3) (x2).toNatClampNeg) = (-9 : Int32) then g_X4_formCount_24 a0 k4 x1 x2 h else g_X4_formCount_24 a0 k4 (x1 + (1 : Int32)) x2 h) else none))
def f_X4_formCount_4 (a0 : Nat) : Nat → Int32 → Int32 → Hp → Option (Int32 × Hp)
  | 0 => fun _ _ _ => none
  | n + 1 => fun x1 x2 h => g_X4_formCount_4 a0 (f_X4_formCount_4 a0 n) x1 x2 h
def f_X4_formCount (a0 : Nat) (h : Hp) : Option (Int32 × Hp) := f_X4_formCount_4 a0 FU (0 : Int32) (0 : Int32) h
def g_X4_goToNextOrder_91 (a0 : Nat) (k91 : Int32 → Int32 → Hp → Option (Int32 × Hp)) (x3 : Int32) (x4 : Int32) (h : Hp) : Option (Int32 × Hp) := (if x4 ≤ x3 then (some ((1 : Int32), h)) else ((f_X4_exchange a0 x3 x4 h).bind (fun h3 => k91 (x3 + (1 : Int32)) (x4 + (-1 : Int32)) h3)))
def f_X4_goToNextOrder_91 (a0 : Nat) : Nat → Int32 → Int32 → Hp → Option (Int32 × Hp)
  | 0 => fun _ _ _ => none
  | n + 1 => fun x3 x4 h => g_X4_goToNextOrder_91 a0 (f_X4_goToNextOrder_91 a0 n) x3 x4 h
def g_X4_goToNextOrder_73 (a0 : Nat) (x1 : Int32) (x2 : Int32) (h : Hp) : Option (Int32 × Hp) := ((f_X4_exchange a0 x1 x2 h).bind (fun h6 => f_X4_goToNextOrder_91 a0 FU (x1 + (1 : Int32)) ((h6.1 a0 5) - (1 : Int32)) h6))
def g_X4_goToNextOrder_47 (a0 : Nat) (k47 : Int32 → Int32 → Hp → Option (Int32 × Hp)) (x1 : Int32) (x2 : Int32) (h : Hp) : Option (Int32 × Hp) := (if x2 ≤ x1 then g_X4_goToNextOrder_73 a0 x1 x2 h else (if okI x2 (lN_ (rF a0 2)) = true then (if okI x1 (lN_ (rF a0 2)) = true then (if (h.1 (rF a0 2) (x1).toNatClampNeg) ≤ (h.1 (rF a0 2) (x2).toNatClampNeg) then g_X4_goToNextOrder_73 a0 x1 x2 h else k47 x1 (x2 + (-1 : Int32)) h) else none) else none))
def f_X4_goToNextOrder_47 (a0 : Nat) : Nat → Int32 → Int32 → Hp → Option (Int32 × Hp)
  | 0 => fun _ _ _ => none
  | n + 1 => fun x1 x2 h => g_X4_goToNextOrder_47 a0 (f_X4_goToNextOrder_47 a0 n) x1 x2 h
def g_X4_goToNextOrder_34 (a0 : Nat) (x1 : Int32) (h : Hp) : Option (Int32 × Hp) := (if 0 ≤ x1 then f_X4_goToNextOrder_47 a0 FU x1 ((h.1 a0 5) - (1 : Int32)) h else (some ((0 : Int32), h)))
def g_X4_goToNextOrder_7 (a0 : Nat) (k7 : Int32 → Hp → Option (Int32 × Hp)) (x1 : Int32) (h : Hp) : Option (Int32 × Hp) := (if x1 < 0 then g_X4_goToNextOrder_34 a0 x1 h else (if okI x1 (lN_ (rF a0 2)) = true then (if okI (x1 + (1 : Int32)) (lN_ (rF a0 2)) = true then (if (h.1 (rF a0 2) (x1).toNatClampNeg) ≤ (h.1 (rF a0 2) ((x1 + (1 : Int32))).toNatClampNeg) then g_X4_goToNextOrder_34 a0 x1 h else k7 (x1 + (-1 : Int32)) h) else none) else none))
def f_X4_goToNextOrder_7 (a0 : Nat) : Nat → Int32 → Hp → Option (Int32 × Hp)
  | 0 => fun _ _ => none
  | n + 1 => fun x1 h => g_X4_goToNextOrder_7 a0 (f_X4_goToNextOrder_7 a0 n) x1 h
def f_X4_goToNextOrder (a0 : Nat) (h : Hp) : Option (Int32 × Hp) := f_X4_goToNextOrder_7 a0 FU ((h.1 a0 5) - (2 : Int32)) h
def g_X4_orderFigures_4 (a0 : Nat) (k4 : Int32 → Int32 → Hp → Option (Int32 × Hp)) (x1 : Int32) (x2 : Int32) (h : Hp) : Option (Int32 × Hp) := (if (h.1 a0 5) ≤ x2 then (some (x1, h)) else (if okI x2 (lN_ (rF a0 2)) = true then k4 (((10 : Int32) * x1) + (h.1 (rF a0 2) (x2).toNatClampNeg)) (x2 + (1 : Int32)) h else none))
def f_X4_orderFigures_4 (a0 : Nat) : Nat → Int32 → Int32 → Hp → Option (Int32 × Hp)
  | 0 => fun _ _ _ => none
  | n + 1 => fun x1 x2 h => g_X4_orderFigures_4 a0 (f_X4_orderFigures_4 a0 n) x1 x2 h
def f_X4_orderFigures (a0 : Nat) (h : Hp) : Option (Int32 × Hp) := f_X4_orderFigures_4 a0 FU (0 : Int32) (0 : Int32) h
def g_X4_walkWith_41 (a0 : Nat) (a1 : Int32) (a2 : Int32) (k5 : Int32 → Int32 → Hp → Option (Int32 × Hp)) (x3 : Int32) (x4 : Int32) (h : Hp) : Option (Int32 × Hp) := k5 x3 (x4 + (1 : Int32)) h
def g_X4_walkWith_5 (a0 : Nat) (a1 : Int32) (a2 : Int32) (k5 : Int32 → Int32 → Hp → Option (Int32 × Hp)) (x3 : Int32) (x4 : Int32) (h : Hp) : Option (Int32 × Hp) := (if (h.1 a0 5) ≤ x4 then (some (x3, h)) else (if okI x4 (lN_ (rF a0 2)) = true then (if (a2 &&& ((1 : Int32) <<< ((h.1 (rF a0 2) (x4).toNatClampNeg) &&& (31 : Int32)))) = 0 then g_X4_walkWith_41 a0 a1 a2 k5 x3 x4 h else (if okI x4 (lN_ (rF a0 2)) = true then (bnd (f_X4_goOver a0 (h.1 (rF a0 2) (x4).toNatClampNeg) x3 h) (fun r7 h6 => g_X4_walkWith_41 a0 a1 a2 k5 r7 x4 h6)) else none)) else none))
def f_X4_walkWith_5 (a0 : Nat) (a1 : Int32) (a2 : Int32) : Nat → Int32 → Int32 → Hp → Option (Int32 × Hp)
  | 0 => fun _ _ _ => none
  | n + 1 => fun x3 x4 h => g_X4_walkWith_5 a0 a1 a2 (f_X4_walkWith_5 a0 a1 a2 n) x3 x4 h
def f_X4_walkWith (a0 : Nat) (a1 : Int32) (a2 : Int32) (h : Hp) : Option (Int32 × Hp) := f_X4_walkWith_5 a0 a1 a2 FU a1 (0 : Int32) h
def f_X4_makeOf (a0 : Nat) (a1 : Int32) (a2 : Int32) (h : Hp) : Option (Int32 × Hp) := (bnd (f_X2_joined (rF a0 0) a1 a2 h) (fun r3 h2 => (bnd (f_X4_walk a0 r3 (h2.1 a0 5) h2) (fun r6 h5 => (some (r6, h5))))))
def g_X4_isAmongUnlike_2 (a0 : Nat) (a1 : Int32) (a2 : Int32) (k2 : Int32 → Hp → Option (Int32 × Hp)) (x3 : Int32) (h : Hp) : Option (Int32 × Hp) := (if a2 ≤ x3 then (some ((0 : Int32), h)) else (if okI x3 (lN_ (rF a0 4)) = true then (if (h.1 (rF a0 4) (x3).toNatClampNeg) = a1 then (some ((1 : Int32), h)) else k2 (x3 + (1 : Int32)) h) else none))
def f_X4_isAmongUnlike_2 (a0 : Nat) (a1 : Int32) (a2 : Int32) : Nat → Int32 → Hp → Option (Int32 × Hp)
  | 0 => fun _ _ => none
  | n + 1 => fun x3 h => g_X4_isAmongUnlike_2 a0 a1 a2 (f_X4_isAmongUnlike_2 a0 a1 a2 n) x3 h
def f_X4_isAmongUnlike (a0 : Nat) (a1 : Int32) (a2 : Int32) (h : Hp) : Option (Int32 × Hp) := f_X4_isAmongUnlike_2 a0 a1 a2 FU (0 : Int32) h
def g_X4_unlikeWords_68 (a0 : Nat) (a1 : Int32) (k4 : Int32 → Int32 → Hp → Option (Int32 × Hp)) (k18 : Int32 → Int32 → Int32 → Hp → Option (Int32 × Hp)) (x2 : Int32) (x3 : Int32) (x4 : Int32) (h : Hp) : Option (Int32 × Hp) := k18 x2 x3 (x4 + (1 : Int32)) h
def g_X4_unlikeWords_18 (a0 : Nat) (a1 : Int32) (k4 : Int32 → Int32 → Hp → Option (Int32 × Hp)) (k18 : Int32 → Int32 → Int32 → Hp → Option (Int32 × Hp)) (x2 : Int32) (x3 : Int32) (x4 : Int32) (h : Hp) : Option (Int32 × Hp) := (if (h.1 (rF a0 0) 3) ≤ x4 then k4 x2 (x3 + (1 : Int32)) h else (bnd (f_X2_joined (rF a0 0) x3 x4 h) (fun r4 h3 => (bnd (f_X4_walkWith a0 r4 a1 h3) (fun r7 h6 => (bnd (f_X4_isAmongUnlike a0 r7 x2 h6) (fun r10 h9 => (if r10 = 0 then (if okI x2 (lN_ (rF a0 4)) = true then g_X4_unlikeWords_68 a0 a1 k4 k18 (x2 + (1 : Int32)) x3 x4 (sI h9 (rF a0 4) (x2).toNatClampNeg r7) else none) else g_X4_unlikeWords_68 a0 a1 k4 k18 x2 x3 x4 h9))))))))
def f_X4_unlikeWords_18 (a0 : Nat) (a1 : Int32) (k4 : Int32 → Int32 → Hp → Option (Int32 × Hp)) : Nat → Int32 → Int32 → Int32 → Hp → Option (Int32 × Hp)
  | 0 => fun _ _ _ _ => none
  | n + 1 => fun x2 x3 x4 h => g_X4_unlikeWords_18 a0 a1 k4 (f_X4_unlikeWords_18 a0 a1 k4 n) x2 x3 x4 h
def g_X4_unlikeWords_4 (a0 : Nat) (a1 : Int32) (k4 : Int32 → Int32 → Hp → Option (Int32 × Hp)) (x2 : Int32) (x3 : Int32) (h : Hp) : Option (Int32 × Hp) := (if (h.1 (rF a0 0) 2) ≤ x3 then (some (x2, h)) else f_X4_unlikeWords_18 a0 a1 k4 FU x2 x3 (0 : Int32) h)
def f_X4_unlikeWords_4 (a0 : Nat) (a1 : Int32) : Nat → Int32 → Int32 → Hp → Option (Int32 × Hp)
  | 0 => fun _ _ _ => none
  | n + 1 => fun x2 x3 h => g_X4_unlikeWords_4 a0 a1 (f_X4_unlikeWords_4 a0 a1 n) x2 x3 h
def f_X4_unlikeWords (a0 : Nat) (a1 : Int32) (h : Hp) : Option (Int32 × Hp) := f_X4_unlikeWords_4 a0 a1 FU (0 : Int32) (0 : Int32) h
def g_X4_activeOver_48 (a0 : Nat) (a1 : Int32) (k7 : Int32 → Int32 → Int32 → Hp → Option (Int32 × Hp)) (x2 : Int32) (x4 : Int32) (x5 : Int32) (h : Hp) : Option (Int32 × Hp) := k7 x2 x5 (x4 + (1 : Int32)) h
def g_X4_activeOver_7 (a0 : Nat) (a1 : Int32) (k7 : Int32 → Int32 → Int32 → Hp → Option (Int32 × Hp)) (x2 : Int32) (x3 : Int32) (x4 : Int32) (h : Hp) : Option (Int32 × Hp) := (if (h.1 a0 5) ≤ x4 then (some (x2, h)) else (if okI x4 (lN_ (rF a0 2)) = true then (bnd (f_X4_goOver a0 (h.1 (rF a0 2) (x4).toNatClampNeg) x3 h) (fun r5 h4 => (if r5 = x3 then g_X4_activeOver_48 a0 a1 k7 x2 x4 r5 h4 else (if okI x4 (lN_ (rF a0 2)) = true then g_X4_activeOver_48 a0 a1 k7 (x2 ||| ((1 : Int32) <<< ((h4.1 (rF a0 2) (x4).toNatClampNeg) &&& (31 : Int32)))) x4 r5 h4 else none)))) else none))
def f_X4_activeOver_7 (a0 : Nat) (a1 : Int32) : Nat → Int32 → Int32 → Int32 → Hp → Option (Int32 × Hp)
  | 0 => fun _ _ _ _ => none
  | n + 1 => fun x2 x3 x4 h => g_X4_activeOver_7 a0 a1 (f_X4_activeOver_7 a0 a1 n) x2 x3 x4 h
def f_X4_activeOver (a0 : Nat) (a1 : Int32) (h : Hp) : Option (Int32 × Hp) := f_X4_activeOver_7 a0 a1 FU (0 : Int32) a1 (0 : Int32) h
def g_X4_activeChanges_17 (a0 : Nat) (k4 : Int32 → Int32 → Hp → Option (Int32 × Hp)) (k17 : Int32 → Int32 → Int32 → Hp → Option (Int32 × Hp)) (x1 : Int32) (x2 : Int32) (x3 : Int32) (h : Hp) : Option (Int32 × Hp) := (if (h.1 (rF a0 0) 3) ≤ x3 then k4 x1 (x2 + (1 : Int32)) h else (bnd (f_X2_joined (rF a0 0) x2 x3 h) (fun r4 h3 => (bnd (f_X4_activeOver a0 r4 h3) (fun r7 h6 => k17 (x1 ||| r7) x2 (x3 + (1 : Int32)) h6)))))
def f_X4_activeChanges_17 (a0 : Nat) (k4 : Int32 → Int32 → Hp → Option (Int32 × Hp)) : Nat → Int32 → Int32 → Int32 → Hp → Option (Int32 × Hp)
  | 0 => fun _ _ _ _ => none
  | n + 1 => fun x1 x2 x3 h => g_X4_activeChanges_17 a0 k4 (f_X4_activeChanges_17 a0 k4 n) x1 x2 x3 h
def g_X4_activeChanges_4 (a0 : Nat) (k4 : Int32 → Int32 → Hp → Option (Int32 × Hp)) (x1 : Int32) (x2 : Int32) (h : Hp) : Option (Int32 × Hp) := (if (h.1 (rF a0 0) 2) ≤ x2 then (some (x1, h)) else f_X4_activeChanges_17 a0 k4 FU x1 x2 (0 : Int32) h)
def f_X4_activeChanges_4 (a0 : Nat) : Nat → Int32 → Int32 → Hp → Option (Int32 × Hp)
  | 0 => fun _ _ _ => none
  | n + 1 => fun x1 x2 h => g_X4_activeChanges_4 a0 (f_X4_activeChanges_4 a0 n) x1 x2 h
def f_X4_activeChanges (a0 : Nat) (h : Hp) : Option (Int32 × Hp) := f_X4_activeChanges_4 a0 FU (0 : Int32) (0 : Int32) h
def g_X4_exceptions_57 (a0 : Nat) (k4 : Int32 → Int32 → Hp → Option (Int32 × Hp)) (k17 : Int32 → Int32 → Int32 → Hp → Option (Int32 × Hp)) (x1 : Int32) (x2 : Int32) (x3 : Int32) (h : Hp) : Option (Int32 × Hp) := k17 x1 x2 (x3 + (1 : Int32)) h
def g_X4_exceptions_17 (a0 : Nat) (k4 : Int32 → Int32 → Hp → Option (Int32 × Hp)) (k17 : Int32 → Int32 → Int32 → Hp → Option (Int32 × Hp)) (x1 : Int32) (x2 : Int32) (x3 : Int32) (h : Hp) : Option (Int32 × Hp) := (if (h.1 (rF a0 0) 3) ≤ x3 then k4 x1 (x2 + (1 : Int32)) h else (bnd (f_X4_formOf a0 x2 x3 h) (fun r4 h3 => (if r4 = (-9 : Int32) then g_X4_exceptions_57 a0 k4 k17 x1 x2 x3 h3 else (bnd (f_X4_makeOf a0 x2 x3 h3) (fun r8 h7 => (if r4 = r8 then g_X4_exceptions_57 a0 k4 k17 x1 x2 x3 h7 else g_X4_exceptions_57 a0 k4 k17 (x1 + (1 : Int32)) x2 x3 h7)))))))
def f_X4_exceptions_17 (a0 : Nat) (k4 : Int32 → Int32 → Hp → Option (Int32 × Hp)) : Nat → Int32 → Int32 → Int32 → Hp → Option (Int32 × Hp)
  | 0 => fun _ _ _ _ => none
  | n + 1 => fun x1 x2 x3 h => g_X4_exceptions_17 a0 k4 (f_X4_exceptions_17 a0 k4 n) x1 x2 x3 h
def g_X4_exceptions_4 (a0 : Nat) (k4 : Int32 → Int32 → Hp → Option (Int32 × Hp)) (x1 : Int32) (x2 : Int32) (h : Hp) : Option (Int32 × Hp) := (if (h.1 (rF a0 0) 2) ≤ x2 then (some (x1, h)) else f_X4_exceptions_17 a0 k4 FU x1 x2 (0 : Int32) h)
def f_X4_exceptions_4 (a0 : Nat) : Nat → Int32 → Int32 → Hp → Option (Int32 × Hp)
  | 0 => fun _ _ _ => none
  | n + 1 => fun x1 x2 h => g_X4_exceptions_4 a0 (f_X4_exceptions_4 a0 n) x1 x2 h
def f_X4_exceptions (a0 : Nat) (h : Hp) : Option (Int32 × Hp) := f_X4_exceptions_4 a0 FU (0 : Int32) (0 : Int32) h
def g_X4_doCross_16 (a0 : Nat) (a1 : Int32) (a2 : Int32) (k2 : Int32 → Hp → Option (Int32 × Hp)) (k16 : Int32 → Int32 → Hp → Option (Int32 × Hp)) (x3 : Int32) (x4 : Int32) (h : Hp) : Option (Int32 × Hp) := (if (h.1 (rF a0 0) 3) ≤ x4 then k2 (x3 + (1 : Int32)) h else (bnd (f_X2_joined (rF a0 0) x3 x4 h) (fun r4 h3 => (bnd (f_X4_goOver a0 a1 r4 h3) (fun r7 h6 => (bnd (f_X4_goOver a0 a2 r7 h6) (fun r10 h9 => (bnd (f_X4_goOver a0 a2 r4 h9) (fun r13 h12 => (bnd (f_X4_goOver a0 a1 r13 h12) (fun r16 h15 => (if r10 = r16 then k16 x3 (x4 + (1 : Int32)) h15 else (some ((1 : Int32), h15))))))))))))))
def f_X4_doCross_16 (a0 : Nat) (a1 : Int32) (a2 : Int32) (k2 : Int32 → Hp → Option (Int32 × Hp)) : Nat → Int32 → Int32 → Hp → Option (Int32 × Hp)
  | 0 => fun _ _ _ => none
  | n + 1 => fun x3 x4 h => g_X4_doCross_16 a0 a1 a2 k2 (f_X4_doCross_16 a0 a1 a2 k2 n) x3 x4 h
def g_X4_doCross_2 (a0 : Nat) (a1 : Int32) (a2 : Int32) (k2 : Int32 → Hp → Option (Int32 × Hp)) (x3 : Int32) (h : Hp) : Option (Int32 × Hp) := (if (h.1 (rF a0 0) 2) ≤ x3 then (some ((0 : Int32), h)) else f_X4_doCross_16 a0 a1 a2 k2 FU x3 (0 : Int32) h)
def f_X4_doCross_2 (a0 : Nat) (a1 : Int32) (a2 : Int32) : Nat → Int32 → Hp → Option (Int32 × Hp)
  | 0 => fun _ _ => none
  | n + 1 => fun x3 h => g_X4_doCross_2 a0 a1 a2 (f_X4_doCross_2 a0 a1 a2 n) x3 h
def f_X4_doCross (a0 : Nat) (a1 : Int32) (a2 : Int32) (h : Hp) : Option (Int32 × Hp) := f_X4_doCross_2 a0 a1 a2 FU (0 : Int32) h
def g_X5_isWord_16 (a0 : Int32) (k16 : Int32 → Int32 → Hp → Option (Int32 × Hp)) (x1 : Int32) (x2 : Int32) (h : Hp) : Option (Int32 × Hp) := (if (6 : Int32) ≤ x2 then (some ((1 : Int32), h)) else (if x1 ≤ 0 then (some ((1 : Int32), h)) else (if (x1 - x1 / (10 : Int32) * (10 : Int32)) < (1 : Int32) then (some ((0 : Int32), h)) else (if (x1 - x1 / (10 : Int32) * (10 : Int32)) ≤ (5 : Int32) then k16 (x1 / (10 : Int32)) (x2 + (1 : Int32)) h else (some ((0 : Int32), h))))))
def f_X5_isWord_16 (a0 : Int32) : Nat → Int32 → Int32 → Hp → Option (Int32 × Hp)
  | 0 => fun _ _ _ => none
  | n + 1 => fun x1 x2 h => g_X5_isWord_16 a0 (f_X5_isWord_16 a0 n) x1 x2 h
def f_X5_isWord (a0 : Int32) (h : Hp) : Option (Int32 × Hp) := (if a0 < 0 then (some ((0 : Int32), h)) else (if a0 ≤ (555555 : Int32) then f_X5_isWord_16 a0 FU a0 (0 : Int32) h else (some ((0 : Int32), h))))
def f_X6_write (a0 : Nat) (a1 : Int32) (h : Hp) : Option (Int32 × Hp) := (if a1 < 0 then (some ((-2 : Int32), h)) else (if a1 ≤ (255 : Int32) then (bnd (f_X3_append (rF a0 0) a1 h) (fun r5 h4 => (if r5 = 0 then (some ((-4 : Int32), h4)) else (some ((h4.1 (rF a0 0) 1), h4))))) else (some ((-2 : Int32), h))))
def f_X6_wipe (a0 : Nat) (h : Hp) : Option (Int32 × Hp) := (some ((h.1 (rF a0 0) 1), (sI h (rF a0 0) 1 (0 : Int32))))
def g_X6_fault_12 (a0 : Nat) (a1 : Int32) (h : Hp) : Option (Int32 × Hp) := ((f_X3_read (rF a0 0) h).bind (fun h2 => (if a1 = 0 then (some ((h2.1 (rF a0 0) 9), h2)) else (some ((h2.1 (rF a0 0) 10), h2)))))
def f_X6_fault (a0 : Nat) (a1 : Int32) (h : Hp) : Option (Int32 × Hp) := (if a1 = 0 then g_X6_fault_12 a0 a1 h else (if a1 = (1 : Int32) then g_X6_fault_12 a0 a1 h else (some ((-2 : Int32), h))))
def g_X6_list_54 (a0 : Nat) (k54 : Int32 → Hp → Option (Int32 × Hp)) (x1 : Int32) (h : Hp) : Option (Int32 × Hp) := (if (2 : Int32) ≤ x1 then (some ((h.1 (rF a0 0) 8), h)) else (if okI x1 (lN_ (rF a0 5)) = true then k54 (x1 + (1 : Int32)) (sI h (rF a0 5) (x1).toNatClampNeg (vp_nar .boolean (0 : Int32))) else none))
def f_X6_list_54 (a0 : Nat) : Nat → Int32 → Hp → Option (Int32 × Hp)
  | 0 => fun _ _ => none
  | n + 1 => fun x1 h => g_X6_list_54 a0 (f_X6_list_54 a0 n) x1 h
def f_X6_list (a0 : Nat) (h : Hp) : Option (Int32 × Hp) := ((f_X3_read (rF a0 0) h).bind (fun h4 => (if (h4.1 (rF a0 0) 9) = (-9 : Int32) then ((f_X2_takeFrom (rF a0 1) (rF a0 0) h4).bind (fun h8 => ((f_X4_beginWith (rF a0 2) (rF a0 0) h8).bind (fun h11 => f_X6_list_54 a0 FU (0 : Int32) (sI h11 (rF a0 6) 5 (0 : Int32)))))) else (some ((-3 : Int32), h4)))))
def f_X6_about (a0 : Nat) (a1 : Int32) (h : Hp) : Option (Int32 × Hp) := (if a1 = 0 then (some ((h.1 (rF a0 1) 2), h)) else (if a1 = 1 then (some ((h.1 (rF a0 1) 3), h)) else (if a1 = 2 then (some ((h.1 (rF a0 2) 5), h)) else (if a1 = 3 then (bnd (f_X4_allChanges (rF a0 2) h) (fun r7 h6 => (bnd (f_X4_unlikeWords (rF a0 2) r7 h6) (fun r10 h9 => (some (r10, h9)))))) else (if a1 = 4 then (bnd (f_X4_activeChanges (rF a0 2) h) (fun r14 h13 => (some (r14, h13)))) else (if a1 = 5 then (bnd (f_X4_exceptions (rF a0 2) h) (fun r18 h17 => (some (r18, h17)))) else (if a1 = 6 then (bnd (f_X4_formCount (rF a0 2) h) (fun r22 h21 => (some (r22, h21)))) else (if a1 = 7 then (some ((h.1 (rF a0 6) 5), h)) else (if a1 = 8 then (some ((h.1 (rF a0 7) 4), h)) else (if a1 = 9 then (some ((h.1 (rF a0 0) 1), h)) else (some ((-2 : Int32), h))))))))))))
def g_X6_part_12 (a0 : Nat) (a1 : Int32) (a2 : Int32) (h : Hp) : Option (Int32 × Hp) := (if a1 = 0 then (bnd (f_X2_hasRoot (rF a0 1) a2 h) (fun r9 h8 => (if r9 = 0 then (some ((-1 : Int32), h8)) else (if okI a2 (lN_ (rF (rF a0 1) 0)) = true then (some ((h8.1 (rF (rF a0 1) 0) (a2).toNatClampNeg), h8)) else none)))) else (bnd (f_X2_hasEnding (rF a0 1) a2 h) (fun r4 h3 => (if r4 = 0 then (some ((-1 : Int32), h3)) else (if okI a2 (lN_ (rF (rF a0 1) 1)) = true then (some ((h3.1 (rF (rF a0 1) 1) (a2).toNatClampNeg), h3)) else none)))))
def f_X6_part (a0 : Nat) (a1 : Int32) (a2 : Int32) (h : Hp) : Option (Int32 × Hp) := (if a1 = 0 then g_X6_part_12 a0 a1 a2 h else (if a1 = (1 : Int32) then g_X6_part_12 a0 a1 a2 h else (some ((-2 : Int32), h))))
def f_X6_isSignPlace (a0 : Int32) (h : Hp) : Option (Int32 × Hp) := (if a0 < 0 then (some ((0 : Int32), h)) else (if (4 : Int32) ≤ a0 then (some ((0 : Int32), h)) else (some ((1 : Int32), h))))
def f_X6_sign (a0 : Nat) (a1 : Int32) (a2 : Int32) (h : Hp) : Option (Int32 × Hp) := (bnd (f_X4_hasChange (rF a0 2) a1 h) (fun r3 h2 => (if r3 = 0 then (some ((-1 : Int32), h2)) else (bnd (f_X6_isSignPlace a2 h2) (fun r7 h6 => (if r7 = 0 then (some ((-2 : Int32), h6)) else (bnd (f_X4_signOf (rF a0 2) a1 a2 h6) (fun r11 h10 => (some (r11, h10))))))))))
def f_X6_order (a0 : Nat) (a1 : Int32) (h : Hp) : Option (Int32 × Hp) := (bnd (f_X4_hasChange (rF a0 2) a1 h) (fun r3 h2 => (if r3 = 0 then (some ((-1 : Int32), h2)) else (if okI a1 (lN_ (rF (rF a0 2) 2)) = true then (some ((h2.1 (rF (rF a0 2) 2) (a1).toNatClampNeg), h2)) else none))))
def f_X6_made (a0 : Nat) (a1 : Int32) (a2 : Int32) (h : Hp) : Option (Int32 × Hp) := (bnd (f_X2_hasPair (rF a0 1) a1 a2 h) (fun r3 h2 => (if r3 = 0 then (some ((-1 : Int32), h2)) else (bnd (f_X4_makeOf (rF a0 2) a1 a2 h2) (fun r7 h6 => (some (r7, h6)))))))
def f_X6_step (a0 : Nat) (a1 : Int32) (a2 : Int32) (a3 : Int32) (h : Hp) : Option (Int32 × Hp) := (bnd (f_X2_hasPair (rF a0 1) a1 a2 h) (fun r3 h2 => (if r3 = 0 then (some ((-1 : Int32), h2)) else (if a3 < 0 then (some ((-2 : Int32), h2)) else (if a3 ≤ (h2.1 (rF a0 2) 5) then (bnd (f_X2_joined (rF a0 1) a1 a2 h2) (fun r9 h8 => (bnd (f_X4_walk (rF a0 2) r9 a3 h8) (fun r12 h11 => (some (r12, h11)))))) else (some ((-2 : Int32), h2)))))))
def g_X6_apart_92 (a0 : Nat) (a1 : Int32) (a2 : Int32) (k28 : Int32 → Int32 → Int32 → Hp → Option (Int32 × Hp)) (k43 : Int32 → Int32 → Int32 → Int32 → Hp → Option (Int32 × Hp)) (x3 : Int32) (x4 : Int32) (x5 : Int32) (x6 : Int32) (h : Hp) : Option (Int32 × Hp) := k43 x3 x4 x5 (x6 + (1 : Int32)) h
def g_X6_apart_87 (a0 : Nat) (a1 : Int32) (a2 : Int32) (k28 : Int32 → Int32 → Int32 → Hp → Option (Int32 × Hp)) (k43 : Int32 → Int32 → Int32 → Int32 → Hp → Option (Int32 × Hp)) (x3 : Int32) (x5 : Int32) (x6 : Int32) (z0 : Int32) (h : Hp) : Option (Int32 × Hp) := g_X6_apart_92 a0 a1 a2 k28 k43 (x3 + (1 : Int32)) z0 x5 x6 h
def g_X6_apart_43 (a0 : Nat) (a1 : Int32) (a2 : Int32) (k28 : Int32 → Int32 → Int32 → Hp → Option (Int32 × Hp)) (k43 : Int32 → Int32 → Int32 → Int32 → Hp → Option (Int32 × Hp)) (x3 : Int32) (x4 : Int32) (x5 : Int32) (x6 : Int32) (h : Hp) : Option (Int32 × Hp) := (if (h.1 (rF a0 1) 3) ≤ x6 then k28 x3 x4 (x5 + (1 : Int32)) h else (bnd (f_X4_makeOf (rF a0 2) x5 x6 h) (fun r4 h3 => (if r4 = a1 then (if x3 = 0 then g_X6_apart_87 a0 a1 a2 k28 k43 x3 x5 x6 (((10 : Int32) * x5) + x6) h3 else g_X6_apart_87 a0 a1 a2 k28 k43 x3 x5 x6 x4 h3) else g_X6_apart_92 a0 a1 a2 k28 k43 x3 x4 x5 x6 h3))))
def f_X6_apart_43 (a0 : Nat) (a1 : Int32) (a2 : Int32) (k28 : Int32 → Int32 → Int32 → Hp → Option (Int32 × Hp)) : Nat → Int32 → Int32 → Int32 → Int32 → Hp → Option (Int32 × Hp)
  | 0 => fun _ _ _ _ _ => none
  | n + 1 => fun x3 x4 x5 x6 h => g_X6_apart_43 a0 a1 a2 k28 (f_X6_apart_43 a0 a1 a2 k28 n) x3 x4 x5 x6 h
def g_X6_apart_28 (a0 : Nat) (a1 : Int32) (a2 : Int32) (k28 : Int32 → Int32 → Int32 → Hp → Option (Int32 × Hp)) (x3 : Int32) (x4 : Int32) (x5 : Int32) (h : Hp) : Option (Int32 × Hp) := (if (h.1 (rF a0 1) 2) ≤ x5 then (if a2 = 0 then (some (x3, h)) else (some (x4, h))) else f_X6_apart_43 a0 a1 a2 k28 FU x3 x4 x5 (0 : Int32) h)
def f_X6_apart_28 (a0 : Nat) (a1 : Int32) (a2 : Int32) : Nat → Int32 → Int32 → Int32 → Hp → Option (Int32 × Hp)
  | 0 => fun _ _ _ _ => none
  | n + 1 => fun x3 x4 x5 h => g_X6_apart_28 a0 a1 a2 (f_X6_apart_28 a0 a1 a2 n) x3 x4 x5 h
def g_X6_apart_19 (a0 : Nat) (a1 : Int32) (a2 : Int32) (h : Hp) : Option (Int32 × Hp) := f_X6_apart_28 a0 a1 a2 FU (0 : Int32) (-9 : Int32) (0 : Int32) h
def f_X6_apart (a0 : Nat) (a1 : Int32) (a2 : Int32) (h : Hp) : Option (Int32 × Hp) := (bnd (f_X5_isWord a1 h) (fun r11 h10 => (if r11 = 0 then (some ((-2 : Int32), h10)) else (if a2 = 0 then g_X6_apart_19 a0 a1 a2 h10 else (if a2 = (1 : Int32) then g_X6_apart_19 a0 a1 a2 h10 else (some ((-2 : Int32), h10)))))))
def f_X6_form (a0 : Nat) (a1 : Int32) (a2 : Int32) (h : Hp) : Option (Int32 × Hp) := (bnd (f_X2_hasPair (rF a0 1) a1 a2 h) (fun r3 h2 => (if r3 = 0 then (some ((-1 : Int32), h2)) else (bnd (f_X4_formOf (rF a0 2) a1 a2 h2) (fun r7 h6 => (some (r7, h6)))))))
def f_X6_swap (a0 : Nat) (a1 : Int32) (a2 : Int32) (h : Hp) : Option (Int32 × Hp) := (bnd (f_X4_hasChange (rF a0 2) a1 h) (fun r3 h2 => (if r3 = 0 then (some ((-1 : Int32), h2)) else (bnd (f_X4_hasChange (rF a0 2) a2 h2) (fun r7 h6 => (if r7 = 0 then (some ((-1 : Int32), h6)) else ((f_X4_exchange (rF a0 2) a1 a2 h6).bind (fun h10 => ((f_X0_add (rF a0 6) (1 : Int32) a1 a2 (0 : Int32) h10).bind (fun h13 => (bnd (f_X4_allChanges (rF a0 2) h13) (fun r17 h16 => (bnd (f_X4_unlikeWords (rF a0 2) r17 h16) (fun r20 h19 => (some (r20, h19))))))))))))))))
def f_X6_resign (a0 : Nat) (a1 : Int32) (a2 : Int32) (a3 : Int32) (h : Hp) : Option (Int32 × Hp) := (bnd (f_X4_hasChange (rF a0 2) a1 h) (fun r3 h2 => (if r3 = 0 then (some ((-1 : Int32), h2)) else (bnd (f_X6_allowsSign a2 a3 h2) (fun r7 h6 => (if r7 = 0 then (some ((-2 : Int32), h6)) else (bnd (f_X4_signOf (rF a0 2) a1 a2 h6) (fun r11 h10 => ((f_X4_putSign (rF a0 2) a1 a2 a3 h10).bind (fun h13 => ((f_X0_add (rF a0 6) (2 : Int32) a1 a2 r11 h13).bind (fun h16 => (some (r11, h16))))))))))))))
def g_X6_tell_30 (a0 : Nat) (a1 : Int32) (a2 : Int32) (a3 : Int32) (h : Hp) : Option (Int32 × Hp) := (bnd (f_X4_formOf (rF a0 2) a1 a2 h) (fun r3 h2 => ((f_X4_putForm (rF a0 2) a1 a2 a3 h2).bind (fun h5 => ((f_X0_add (rF a0 6) (3 : Int32) a1 a2 r3 h5).bind (fun h8 => (bnd (f_X4_exceptions (rF a0 2) h8) (fun r12 h11 => (some (r12, h11))))))))))
def f_X6_tell (a0 : Nat) (a1 : Int32) (a2 : Int32) (a3 : Int32) (h : Hp) : Option (Int32 × Hp) := (bnd (f_X2_hasPair (rF a0 1) a1 a2 h) (fun r15 h14 => (if r15 = 0 then (some ((-1 : Int32), h14)) else (if a3 = (-9 : Int32) then g_X6_tell_30 a0 a1 a2 a3 h14 else (bnd (f_X5_isWord a3 h14) (fun r20 h19 => (if r20 = 0 then (some ((-2 : Int32), h19)) else g_X6_tell_30 a0 a1 a2 a3 h19)))))))
def f_X6_undo (a0 : Nat) (h : Hp) : Option (Int32 × Hp) := (if (h.1 (rF a0 6) 5) = 0 then (some ((-3 : Int32), h)) else ((f_X0_takeBackLast (rF a0 6) (rF a0 2) h).bind (fun h3 => (some ((h3.1 (rF a0 6) 5), h3)))))
def f_X6_cross (a0 : Nat) (a1 : Int32) (a2 : Int32) (h : Hp) : Option (Int32 × Hp) := (bnd (f_X4_hasChange (rF a0 2) a1 h) (fun r3 h2 => (if r3 = 0 then (some ((-1 : Int32), h2)) else (bnd (f_X4_hasChange (rF a0 2) a2 h2) (fun r7 h6 => (if r7 = 0 then (some ((-1 : Int32), h6)) else (bnd (f_X4_doCross (rF a0 2) a1 a2 h6) (fun r11 h10 => (if r11 = 0 then (some ((0 : Int32), h10)) else (some ((1 : Int32), h10)))))))))))
def g_X6_best_110 (a0 : Nat) (a1 : Int32) (k52 : Int32 → Int32 → Int32 → Int32 → Hp → Option (Int32 × Hp)) (x2 : Int32) (x3 : Int32) (x4 : Int32) (x5 : Int32) (h : Hp) : Option (Int32 × Hp) := k52 x2 x3 x4 (x5 + (1 : Int32)) h
def g_X6_best_116 (a0 : Nat) (a1 : Int32) (x2 : Int32) (x3 : Int32) (x4 : Int32) (h : Hp) : Option (Int32 × Hp) := (if a1 = 0 then (some (x2, h)) else (if a1 = (1 : Int32) then (some (x3, h)) else (some (x4, h))))
def g_X6_best_52 (a0 : Nat) (a1 : Int32) (k52 : Int32 → Int32 → Int32 → Int32 → Hp → Option (Int32 × Hp)) (x2 : Int32) (x3 : Int32) (x4 : Int32) (x5 : Int32) (h : Hp) : Option (Int32 × Hp) := (if (24 : Int32) ≤ x5 then g_X6_best_116 a0 a1 x2 x3 x4 h else (bnd (f_X4_goToNextOrder (rF a0 3) h) (fun r6 h5 => (if r6 = 0 then g_X6_best_116 a0 a1 x2 x3 x4 h5 else (bnd (f_X4_exceptions (rF a0 3) h5) (fun r10 h9 => (if x2 ≤ r10 then (if r10 = x2 then g_X6_best_110 a0 a1 k52 x2 x3 (x4 + (1 : Int32)) x5 h9 else g_X6_best_110 a0 a1 k52 x2 x3 x4 x5 h9) else (bnd (f_X4_orderFigures (rF a0 3) h9) (fun r15 h14 => g_X6_best_110 a0 a1 k52 r10 r15 (1 : Int32) x5 h14)))))))))
def f_X6_best_52 (a0 : Nat) (a1 : Int32) : Nat → Int32 → Int32 → Int32 → Int32 → Hp → Option (Int32 × Hp)
  | 0 => fun _ _ _ _ _ => none
  | n + 1 => fun x2 x3 x4 x5 h => g_X6_best_52 a0 a1 (f_X6_best_52 a0 a1 n) x2 x3 x4 x5 h
def f_X6_best (a0 : Nat) (a1 : Int32) (h : Hp) : Option (Int32 × Hp) := (if a1 < 0 then (some ((-2 : Int32), h)) else (if a1 ≤ (2 : Int32) then ((f_X4_takeFrom (rF a0 3) (rF a0 2) h).bind (fun h19 => ((f_X4_orderByNumber (rF a0 3) h19).bind (fun h22 => (bnd (f_X4_exceptions (rF a0 3) h22) (fun r26 h25 => (bnd (f_X4_orderFigures (rF a0 3) h25) (fun r29 h28 => f_X6_best_52 a0 a1 FU r26 r29 (1 : Int32) (1 : Int32) h28)))))))) else (some ((-2 : Int32), h))))
def g_X6_withoutLastFours_5 (a0 : Int64) (a2 : Int32) (k5 : Int64 → Int32 → Hp → Option (Int64 × Hp)) (x3 : Int64) (x5 : Int32) (h : Hp) : Option (Int64 × Hp) := (if a2 ≤ x5 then (some (x3, h)) else k5 (x3 / (10000 : Int64)) (x5 + (1 : Int32)) h)
def f_X6_withoutLastFours_5 (a0 : Int64) (a2 : Int32) : Nat → Int64 → Int32 → Hp → Option (Int64 × Hp)
  | 0 => fun _ _ _ => none
  | n + 1 => fun x3 x5 h => g_X6_withoutLastFours_5 a0 a2 (f_X6_withoutLastFours_5 a0 a2 n) x3 x5 h
def f_X6_withoutLastFours (a0 : Int64) (a2 : Int32) (h : Hp) : Option (Int64 × Hp) := f_X6_withoutLastFours_5 a0 a2 FU a0 (0 : Int32) h
def f_X6_canSwap (a0 : Nat) (a1 : Int32) (a2 : Int32) (h : Hp) : Option (Int32 × Hp) := (bnd (f_X4_hasChange (rF a0 3) a1 h) (fun r3 h2 => (if r3 = 0 then (some ((0 : Int32), h2)) else (bnd (f_X4_hasChange (rF a0 3) a2 h2) (fun r7 h6 => (if r7 = 0 then (some ((0 : Int32), h6)) else ((f_X4_exchange (rF a0 3) a1 a2 h6).bind (fun h10 => (some ((1 : Int32), h10))))))))))
def f_X6_canSign (a0 : Nat) (a1 : Int32) (a2 : Int32) (a3 : Int32) (h : Hp) : Option (Int32 × Hp) := (bnd (f_X4_hasChange (rF a0 3) a1 h) (fun r3 h2 => (if r3 = 0 then (some ((0 : Int32), h2)) else (bnd (f_X6_allowsSign a2 a3 h2) (fun r7 h6 => (if r7 = 0 then (some ((0 : Int32), h6)) else ((f_X4_putSign (rF a0 3) a1 a2 a3 h6).bind (fun h10 => (some ((1 : Int32), h10))))))))))
def f_X6_canBe (a0 : Nat) (a1 : Int32) (a2 : Int32) (a3 : Int32) (a4 : Int32) (h : Hp) : Option (Int32 × Hp) := (if a1 = 1 then (if a2 = 0 then (bnd (f_X6_canSwap a0 a3 a4 h) (fun r5 h4 => (if r5 = 0 then (some ((0 : Int32), h4)) else (some ((1 : Int32), h4))))) else (some ((0 : Int32), h))) else (if a1 = 2 then (bnd (f_X6_canSign a0 a2 a3 a4 h) (fun r10 h9 => (if okZ r10 = true then some (r10, h9) else none))) else (if a1 = 3 then (bnd (f_X2_hasPair (rF a0 1) a2 a3 h) (fun r15 h14 => (if r15 = 0 then (some ((0 : Int32), h14)) else (bnd (f_X4_makeOf (rF a0 3) a2 a3 h14) (fun r19 h18 => (bnd (f_X5_lengthOf r19 h18) (fun r22 h21 => (if r22 = a4 then (some ((1 : Int32), h21)) else (some ((0 : Int32), h21)))))))))) else (if a1 = 4 then (if a2 = 0 then (bnd (f_X4_hasChange (rF a0 3) a3 h) (fun r28 h27 => (if r28 = 0 then (some ((0 : Int32), h27)) else (bnd (f_X4_hasChange (rF a0 3) a4 h27) (fun r32 h31 => (if r32 = 0 then (some ((0 : Int32), h31)) else (bnd (f_X4_doCross (rF a0 3) a3 a4 h31) (fun r36 h35 => (if r36 = 0 then (some ((0 : Int32), h35)) else (some ((1 : Int32), h35))))))))))) else (some ((0 : Int32), h))) else (if a1 = 5 then (bnd (f_X4_hasChange (rF a0 3) a2 h) (fun r41 h40 => (if r41 = 0 then (some ((0 : Int32), h40)) else (if a3 = 0 then (if a4 = 0 then (bnd (f_X4_activeChanges (rF a0 3) h40) (fun r47 h46 => (if (r47 &&& ((1 : Int32) <<< (a2 &&& (31 : Int32)))) = 0 then (some ((0 : Int32), h46)) else (some ((1 : Int32), h46))))) else (some ((0 : Int32), h40))) else (some ((0 : Int32), h40)))))) else (if a1 = 6 then (if a2 = 0 then (if a3 = 0 then (bnd (f_X4_exceptions (rF a0 3) h) (fun r54 h53 => (if a4 < r54 then (some ((0 : Int32), h53)) else (some ((1 : Int32), h53))))) else (some ((0 : Int32), h))) else (some ((0 : Int32), h))) else (some ((0 : Int32), h))))))))
def g_X6_judge_43 (a0 : Nat) (a1 : Int32) (a2 : Int64) (k43 : Int32 → Hp → Option (Int32 × Hp)) (x4 : Int32) (h : Hp) : Option (Int32 × Hp) := (if a1 ≤ x4 then (some ((-9 : Int32), h)) else (bnd (f_X6_withoutLastFours a2 ((a1 - (1 : Int32)) - x4) h) (fun r4 h3 => (bnd (f_X6_canBe a0 ((((r4 - r4 / (10000 : Int64) * (10000 : Int64))).toInt32) / (1000 : Int32)) (((((r4 - r4 / (10000 : Int64) * (10000 : Int64))).toInt32) / (100 : Int32)) - ((((r4 - r4 / (10000 : Int64) * (10000 : Int64))).toInt32) / (100 : Int32)) / (10 : Int32) * (10 : Int32)) (((((r4 - r4 / (10000 : Int64) * (10000 : Int64))).toInt32) / (10 : Int32)) - ((((r4 - r4 / (10000 : Int64) * (10000 : Int64))).toInt32) / (10 : Int32)) / (10 : Int32) * (10 : Int32)) ((((r4 - r4 / (10000 : Int64) * (10000 : Int64))).toInt32) - (((r4 - r4 / (10000 : Int64) * (10000 : Int64))).toInt32) / (10 : Int32) * (10 : Int32)) h3) (fun r7 h6 => (if r7 = 0 then (some (x4, h6)) else k43 (x4 + (1 : Int32)) h6))))))
def f_X6_judge_43 (a0 : Nat) (a1 : Int32) (a2 : Int64) : Nat → Int32 → Hp → Option (Int32 × Hp)
  | 0 => fun _ _ => none
  | n + 1 => fun x4 h => g_X6_judge_43 a0 a1 a2 (f_X6_judge_43 a0 a1 a2 n) x4 h
def f_X6_judge (a0 : Nat) (a1 : Int32) (a2 : Int64) (h : Hp) : Option (Int32 × Hp) := (if a1 < (1 : Int32) then (some ((-2 : Int32), h)) else (if (4 : Int32) < a1 then (some ((-2 : Int32), h)) else (if (lg_cmp a2 (0 : Int64)) < 0 then (some ((-2 : Int32), h)) else (bnd (f_X6_withoutLastFours a2 a1 h) (fun r14 h13 => (if (lg_cmp r14 (0 : Int64)) = 0 then ((f_X4_takeFrom (rF a0 3) (rF a0 2) h13).bind (fun h17 => f_X6_judge_43 a0 a1 a2 FU (0 : Int32) h17)) else (some ((-2 : Int32), h13))))))))
def f_J6_bitCount_0f7a4 (a0 : Int32) (h : Hp) : Option (Int32 × Hp) := (some (((((((((a0 - ((((a0).toUInt32 >>> (((1 : Int32)).toUInt32 &&& Int32.toUInt32 31)).toInt32) &&& (1431655765 : Int32))) &&& (858993459 : Int32)) + (((((a0 - ((((a0).toUInt32 >>> (((1 : Int32)).toUInt32 &&& Int32.toUInt32 31)).toInt32) &&& (1431655765 : Int32)))).toUInt32 >>> (((2 : Int32)).toUInt32 &&& Int32.toUInt32 31)).toInt32) &&& (858993459 : Int32))) + ((((((a0 - ((((a0).toUInt32 >>> (((1 : Int32)).toUInt32 &&& Int32.toUInt32 31)).toInt32) &&& (1431655765 : Int32))) &&& (858993459 : Int32)) + (((((a0 - ((((a0).toUInt32 >>> (((1 : Int32)).toUInt32 &&& Int32.toUInt32 31)).toInt32) &&& (1431655765 : Int32)))).toUInt32 >>> (((2 : Int32)).toUInt32 &&& Int32.toUInt32 31)).toInt32) &&& (858993459 : Int32)))).toUInt32 >>> (((4 : Int32)).toUInt32 &&& Int32.toUInt32 31)).toInt32)) &&& (252645135 : Int32)) + ((((((((a0 - ((((a0).toUInt32 >>> (((1 : Int32)).toUInt32 &&& Int32.toUInt32 31)).toInt32) &&& (1431655765 : Int32))) &&& (858993459 : Int32)) + (((((a0 - ((((a0).toUInt32 >>> (((1 : Int32)).toUInt32 &&& Int32.toUInt32 31)).toInt32) &&& (1431655765 : Int32)))).toUInt32 >>> (((2 : Int32)).toUInt32 &&& Int32.toUInt32 31)).toInt32) &&& (858993459 : Int32))) + ((((((a0 - ((((a0).toUInt32 >>> (((1 : Int32)).toUInt32 &&& Int32.toUInt32 31)).toInt32) &&& (1431655765 : Int32))) &&& (858993459 : Int32)) + (((((a0 - ((((a0).toUInt32 >>> (((1 : Int32)).toUInt32 &&& Int32.toUInt32 31)).toInt32) &&& (1431655765 : Int32)))).toUInt32 >>> (((2 : Int32)).toUInt32 &&& Int32.toUInt32 31)).toInt32) &&& (858993459 : Int32)))).toUInt32 >>> (((4 : Int32)).toUInt32 &&& Int32.toUInt32 31)).toInt32)) &&& (252645135 : Int32))).toUInt32 >>> (((8 : Int32)).toUInt32 &&& Int32.toUInt32 31)).toInt32)) + (((((((((a0 - ((((a0).toUInt32 >>> (((1 : Int32)).toUInt32 &&& Int32.toUInt32 31)).toInt32) &&& (1431655765 : Int32))) &&& (858993459 : Int32)) + (((((a0 - ((((a0).toUInt32 >>> (((1 : Int32)).toUInt32 &&& Int32.toUInt32 31)).toInt32) &&& (1431655765 : Int32)))).toUInt32 >>> (((2 : Int32)).toUInt32 &&& Int32.toUInt32 31)).toInt32) &&& (858993459 : Int32))) + ((((((a0 - ((((a0).toUInt32 >>> (((1 : Int32)).toUInt32 &&& Int32.toUInt32 31)).toInt32) &&& (1431655765 : Int32))) &&& (858993459 : Int32)) + (((((a0 - ((((a0).toUInt32 >>> (((1 : Int32)).toUInt32 &&& Int32.toUInt32 31)).toInt32) &&& (1431655765 : Int32)))).toUInt32 >>> (((2 : Int32)).toUInt32 &&& Int32.toUInt32 31)).toInt32) &&& (858993459 : Int32)))).toUInt32 >>> (((4 : Int32)).toUInt32 &&& Int32.toUInt32 31)).toInt32)) &&& (252645135 : Int32)) + ((((((((a0 - ((((a0).toUInt32 >>> (((1 : Int32)).toUInt32 &&& Int32.toUInt32 31)).toInt32) &&& (1431655765 : Int32))) &&& (858993459 : Int32)) + (((((a0 - ((((a0).toUInt32 >>> (((1 : Int32)).toUInt32 &&& Int32.toUInt32 31)).toInt32) &&& (1431655765 : Int32)))).toUInt32 >>> (((2 : Int32)).toUInt32 &&& Int32.toUInt32 31)).toInt32) &&& (858993459 : Int32))) + ((((((a0 - ((((a0).toUInt32 >>> (((1 : Int32)).toUInt32 &&& Int32.toUInt32 31)).toInt32) &&& (1431655765 : Int32))) &&& (858993459 : Int32)) + (((((a0 - ((((a0).toUInt32 >>> (((1 : Int32)).toUInt32 &&& Int32.toUInt32 31)).toInt32) &&& (1431655765 : Int32)))).toUInt32 >>> (((2 : Int32)).toUInt32 &&& Int32.toUInt32 31)).toInt32) &&& (858993459 : Int32)))).toUInt32 >>> (((4 : Int32)).toUInt32 &&& Int32.toUInt32 31)).toInt32)) &&& (252645135 : Int32))).toUInt32 >>> (((8 : Int32)).toUInt32 &&& Int32.toUInt32 31)).toInt32))).toUInt32 >>> (((16 : Int32)).toUInt32 &&& Int32.toUInt32 31)).toInt32)) &&& (63 : Int32)), h))
def f_J9_abs_0f7a4 (a0 : Int32) (h : Hp) : Option (Int32 × Hp) := (if 0 ≤ a0 then (some (a0, h)) else (some ((-a0), h)))
def g_X6_sharedDivisor_7 (a0 : Int32) (a1 : Int32) (k7 : Int32 → Int32 → Int32 → Hp → Option (Int32 × Hp)) (x2 : Int32) (x3 : Int32) (x4 : Int32) (h : Hp) : Option (Int32 × Hp) := (if (64 : Int32) ≤ x4 then (some (x2, h)) else (if x3 = 0 then (some (x2, h)) else (if x3 = 0 then none else k7 x3 (x2 - x2 / x3 * x3) (x4 + (1 : Int32)) h)))
def f_X6_sharedDivisor_7 (a0 : Int32) (a1 : Int32) : Nat → Int32 → Int32 → Int32 → Hp → Option (Int32 × Hp)
  | 0 => fun _ _ _ _ => none
  | n + 1 => fun x2 x3 x4 h => g_X6_sharedDivisor_7 a0 a1 (f_X6_sharedDivisor_7 a0 a1 n) x2 x3 x4 h
def f_X6_sharedDivisor (a0 : Int32) (a1 : Int32) (h : Hp) : Option (Int32 × Hp) := f_X6_sharedDivisor_7 a0 a1 FU a0 a1 (0 : Int32) h
def g_X6_fraction_18 (a0 : Int32) (a1 : Int32) (a2 : Int32) (x3 : Int32) (z0 : Int32) (h : Hp) : Option (Int32 × Hp) := (if x3 ≤ (1 : Int32) then (some (z0, h)) else (if x3 = 0 then none else (some ((z0 / x3), h))))
def f_X6_fraction (a0 : Int32) (a1 : Int32) (a2 : Int32) (h : Hp) : Option (Int32 × Hp) := (bnd (f_J9_abs_0f7a4 a0 h) (fun r5 h4 => (bnd (f_X6_sharedDivisor r5 a1 h4) (fun r8 h7 => (if a2 = 0 then g_X6_fraction_18 a0 a1 a2 r8 a1 h7 else g_X6_fraction_18 a0 a1 a2 r8 a0 h7)))))
def g_X6_share_105 (a0 : Nat) (a1 : Int32) (a2 : Int32) (k27 : Int32 → Int32 → Int32 → Hp → Option (Int32 × Hp)) (x3 : Int32) (x4 : Int32) (x5 : Int32) (h : Hp) : Option (Int32 × Hp) := k27 x3 x4 (x5 + (1 : Int32)) h
def g_X6_share_27 (a0 : Nat) (a1 : Int32) (a2 : Int32) (k27 : Int32 → Int32 → Int32 → Hp → Option (Int32 × Hp)) (x3 : Int32) (x4 : Int32) (x5 : Int32) (h : Hp) : Option (Int32 × Hp) := (bnd (f_X4_allChanges (rF a0 2) h) (fun r3 h2 => (if r3 < x5 then (if okI x3 5 = true then (bnd (f_X6_fraction x4 (fct (x3).toNatClampNeg) a2 h2) (fun r8 h7 => (some (r8, h7)))) else none) else (if (x5 &&& ((1 : Int32) <<< (a1 &&& (31 : Int32)))) = 0 then (bnd (f_J6_bitCount_0f7a4 x5 h2) (fun r12 h11 => (if okI r12 5 = true then (if okI ((x3 - (1 : Int32)) - r12) 5 = true then (bnd (f_X4_unlikeWords (rF a0 2) (x5 ||| ((1 : Int32) <<< (a1 &&& (31 : Int32)))) h11) (fun r17 h16 => (bnd (f_X4_unlikeWords (rF a0 2) x5 h16) (fun r20 h19 => g_X6_share_105 a0 a1 a2 k27 x3 (x4 + (((fct (r12).toNatClampNeg) * (fct (((x3 - (1 : Int32)) - r12)).toNatClampNeg)) * (r17 - r20))) x5 h19)))) else none) else none))) else g_X6_share_105 a0 a1 a2 k27 x3 x4 x5 h2))))
def f_X6_share_27 (a0 : Nat) (a1 : Int32) (a2 : Int32) : Nat → Int32 → Int32 → Int32 → Hp → Option (Int32 × Hp)
  | 0 => fun _ _ _ _ => none
  | n + 1 => fun x3 x4 x5 h => g_X6_share_27 a0 a1 a2 (f_X6_share_27 a0 a1 a2 n) x3 x4 x5 h
def f_X6_share (a0 : Nat) (a1 : Int32) (a2 : Int32) (h : Hp) : Option (Int32 × Hp) := (bnd (f_X4_hasChange (rF a0 2) a1 h) (fun r23 h22 => (if r23 = 0 then (some ((-1 : Int32), h22)) else f_X6_share_27 a0 a1 a2 FU (h22.1 (rF a0 2) 5) (0 : Int32) (0 : Int32) h22)))
def g_X6_see_64 (a0 : Nat) (a1 : Int32) (a2 : Int32) (a3 : Int32) (a4 : Int32) (z0 : Nat) (z1 : Int32) (z2 : Int32) (z3 : Int32) (z4 : Int32) (h : Hp) : Option (Int32 × Hp) := (bnd (f_X1_add z0 z1 z2 z3 z4 h) (fun r3 h2 => (if r3 = 0 then (some ((-4 : Int32), h2)) else (some ((h2.1 (rF a0 7) 4), h2)))))
def f_X6_see (a0 : Nat) (a1 : Int32) (a2 : Int32) (a3 : Int32) (a4 : Int32) (h : Hp) : Option (Int32 × Hp) := (bnd (f_X2_hasEnding (rF a0 1) a1 h) (fun r7 h6 => (if r7 = 0 then (some ((-1 : Int32), h6)) else (if a2 < 0 then (some ((-2 : Int32), h6)) else (if (4 : Int32) < a2 then (some ((-2 : Int32), h6)) else (if a3 < (1 : Int32) then (some ((-2 : Int32), h6)) else (if (5 : Int32) < a3 then (some ((-2 : Int32), h6)) else (if a4 < 0 then (some ((-2 : Int32), h6)) else (if a4 ≤ (1 : Int32) then (if a4 = (1 : Int32) then g_X6_see_64 a0 a1 a2 a3 a4 (rF a0 7) a1 a2 a3 (1 : Int32) h6 else g_X6_see_64 a0 a1 a2 a3 a4 (rF a0 7) a1 a2 a3 (0 : Int32) h6) else (some ((-2 : Int32), h6)))))))))))
def f_X6_unsee (a0 : Nat) (h : Hp) : Option (Int32 × Hp) := (some ((h.1 (rF a0 7) 4), (sI h (rF a0 7) 4 (0 : Int32))))
def g_X6_which_89 (a0 : Nat) (a1 : Int32) (k20 : Int32 → Int32 → Int32 → Hp → Option (Int32 × Hp)) (x2 : Int32) (x3 : Int32) (x4 : Int32) (h : Hp) : Option (Int32 × Hp) := k20 x2 x3 (x4 + (1 : Int32)) h
def g_X6_which_85 (a0 : Nat) (a1 : Int32) (k20 : Int32 → Int32 → Int32 → Hp → Option (Int32 × Hp)) (x2 : Int32) (x4 : Int32) (z0 : Int32) (h : Hp) : Option (Int32 × Hp) := g_X6_which_89 a0 a1 k20 (x2 + (1 : Int32)) z0 x4 h
def g_X6_which_20 (a0 : Nat) (a1 : Int32) (k20 : Int32 → Int32 → Int32 → Hp → Option (Int32 × Hp)) (x2 : Int32) (x3 : Int32) (x4 : Int32) (h : Hp) : Option (Int32 × Hp) := (if (125 : Int32) ≤ x4 then (if a1 = 0 then (some (x2, h)) else (some (x3, h))) else (bnd (f_X1_agreeWith (rF a0 7) ((((111 : Int32) + ((100 : Int32) * (x4 / (25 : Int32)))) + ((10 : Int32) * ((x4 / (5 : Int32)) - (x4 / (5 : Int32)) / (5 : Int32) * (5 : Int32)))) + (x4 - x4 / (5 : Int32) * (5 : Int32))) (rF a0 1) (rF a0 2) h) (fun r5 h4 => (if r5 = 0 then g_X6_which_89 a0 a1 k20 x2 x3 x4 h4 else (if x2 = 0 then g_X6_which_85 a0 a1 k20 x2 x4 ((((111 : Int32) + ((100 : Int32) * (x4 / (25 : Int32)))) + ((10 : Int32) * ((x4 / (5 : Int32)) - (x4 / (5 : Int32)) / (5 : Int32) * (5 : Int32)))) + (x4 - x4 / (5 : Int32) * (5 : Int32))) h4 else g_X6_which_85 a0 a1 k20 x2 x4 x3 h4)))))
def f_X6_which_20 (a0 : Nat) (a1 : Int32) : Nat → Int32 → Int32 → Int32 → Hp → Option (Int32 × Hp)
  | 0 => fun _ _ _ _ => none
  | n + 1 => fun x2 x3 x4 h => g_X6_which_20 a0 a1 (f_X6_which_20 a0 a1 n) x2 x3 x4 h
def g_X6_which_12 (a0 : Nat) (a1 : Int32) (h : Hp) : Option (Int32 × Hp) := f_X6_which_20 a0 a1 FU (0 : Int32) (-9 : Int32) (0 : Int32) h
def f_X6_which (a0 : Nat) (a1 : Int32) (h : Hp) : Option (Int32 × Hp) := (if a1 = 0 then g_X6_which_12 a0 a1 h else (if a1 = (1 : Int32) then g_X6_which_12 a0 a1 h else (some ((-2 : Int32), h))))
def g_X6_power_4 (a0 : Int32) (a1 : Int32) (k4 : Int32 → Int32 → Hp → Option (Int32 × Hp)) (x2 : Int32) (x3 : Int32) (h : Hp) : Option (Int32 × Hp) := (if a1 ≤ x3 then (some (x2, h)) else k4 (x2 * a0) (x3 + (1 : Int32)) h)
def f_X6_power_4 (a0 : Int32) (a1 : Int32) : Nat → Int32 → Int32 → Hp → Option (Int32 × Hp)
  | 0 => fun _ _ _ => none
  | n + 1 => fun x2 x3 h => g_X6_power_4 a0 a1 (f_X6_power_4 a0 a1 n) x2 x3 h
def f_X6_power (a0 : Int32) (a1 : Int32) (h : Hp) : Option (Int32 × Hp) := f_X6_power_4 a0 a1 FU (1 : Int32) (0 : Int32) h
def g_X6_fails_119 (a0 : Nat) (a1 : Int32) (a2 : Int32) (a3 : Int32) (a4 : Int32) (k55 : Int32 → Int32 → Int32 → Int32 → Hp → Option (Int32 × Hp)) (x5 : Int32) (x6 : Int32) (x7 : Int32) (x8 : Int32) (h : Hp) : Option (Int32 × Hp) := k55 x5 x6 x7 (x8 + (1 : Int32)) h
def g_X6_fails_55 (a0 : Nat) (a1 : Int32) (a2 : Int32) (a3 : Int32) (a4 : Int32) (k55 : Int32 → Int32 → Int32 → Int32 → Hp → Option (Int32 × Hp)) (x5 : Int32) (x6 : Int32) (x7 : Int32) (x8 : Int32) (h : Hp) : Option (Int32 × Hp) := (bnd (f_X4_allChanges (rF a0 2) h) (fun r3 h2 => (if r3 < x8 then (bnd (f_X6_power (10 : Int32) (h2.1 (rF a0 2) 5) h2) (fun r7 h6 => (bnd (f_X6_fraction x7 r7 a4 h6) (fun r10 h9 => (some (r10, h9)))))) else (bnd (f_X4_walkWith (rF a0 2) x5 x8 h2) (fun r13 h12 => (if r13 = x6 then (bnd (f_J6_bitCount_0f7a4 x8 h12) (fun r17 h16 => (bnd (f_X6_power ((10 : Int32) - a3) r17 h16) (fun r20 h19 => (bnd (f_X6_power a3 ((h19.1 (rF a0 2) 5) - r17) h19) (fun r23 h22 => g_X6_fails_119 a0 a1 a2 a3 a4 k55 x5 x6 (x7 + (r20 * r23)) x8 h22)))))) else g_X6_fails_119 a0 a1 a2 a3 a4 k55 x5 x6 x7 x8 h12))))))
def f_X6_fails_55 (a0 : Nat) (a1 : Int32) (a2 : Int32) (a3 : Int32) (a4 : Int32) : Nat → Int32 → Int32 → Int32 → Int32 → Hp → Option (Int32 × Hp)
  | 0 => fun _ _ _ _ _ => none
  | n + 1 => fun x5 x6 x7 x8 h => g_X6_fails_55 a0 a1 a2 a3 a4 (f_X6_fails_55 a0 a1 a2 a3 a4 n) x5 x6 x7 x8 h
def f_X6_fails (a0 : Nat) (a1 : Int32) (a2 : Int32) (a3 : Int32) (a4 : Int32) (h : Hp) : Option (Int32 × Hp) := (bnd (f_X2_hasPair (rF a0 1) a1 a2 h) (fun r26 h25 => (if r26 = 0 then (some ((-1 : Int32), h25)) else (if a3 < 0 then (some ((-2 : Int32), h25)) else (if a3 ≤ (10 : Int32) then (bnd (f_X2_joined (rF a0 1) a1 a2 h25) (fun r32 h31 => (bnd (f_X4_makeOf (rF a0 2) a1 a2 h31) (fun r35 h34 => f_X6_fails_55 a0 a1 a2 a3 a4 FU r32 r35 (0 : Int32) (0 : Int32) h34)))) else (some ((-2 : Int32), h25)))))))
def f_X6_seed (a0 : Nat) (a1 : Int64) (h : Hp) : Option (Int64 × Hp) := (some ((h.2 a0), (sL h a0 a1)))
def f_X6_rootDrawnFrom (a0 : Int32) (h : Hp) : Option (Int32 × Hp) := (some ((((((1000 : Int32) * ((a0 - a0 / (5 : Int32) * (5 : Int32)) + (1 : Int32))) + ((100 : Int32) * (((a0 / (8 : Int32)) - (a0 / (8 : Int32)) / (5 : Int32) * (5 : Int32)) + (1 : Int32)))) + ((10 : Int32) * (((a0 / (64 : Int32)) - (a0 / (64 : Int32)) / (5 : Int32) * (5 : Int32)) + (1 : Int32)))) + (((a0 / (512 : Int32)) - (a0 / (512 : Int32)) / (5 : Int32) * (5 : Int32)) + (1 : Int32))), h))
def g_X6_drawn_18 (a0 : Nat) (a1 : Int32) (k18 : Int32 → Int32 → Hp → Option (Int32 × Hp)) (x2 : Int32) (x3 : Int32) (h : Hp) : Option (Int32 × Hp) := (if a1 ≤ x3 then (some (x2, h)) else (bnd (f_X6_rootDrawnFrom (((((((sL h a0 (((h.2 a0) * (6364136223846793005 : Int64)) + (1442695040888963407 : Int64))).2 a0)).toUInt64 >>> (((33 : Int32)).toInt64.toUInt64 &&& Int64.toUInt64 63)).toInt64)).toInt32) (sL h a0 (((h.2 a0) * (6364136223846793005 : Int64)) + (1442695040888963407 : Int64)))) (fun r4 h3 => (bnd (f_X4_walk (rF a0 2) r4 (h3.1 (rF a0 2) 5) h3) (fun r7 h6 => (bnd (f_X5_lengthOf r7 h6) (fun r10 h9 => k18 (x2 + r10) (x3 + (1 : Int32)) h9)))))))
def f_X6_drawn_18 (a0 : Nat) (a1 : Int32) : Nat → Int32 → Int32 → Hp → Option (Int32 × Hp)
  | 0 => fun _ _ _ => none
  | n + 1 => fun x2 x3 h => g_X6_drawn_18 a0 a1 (f_X6_drawn_18 a0 a1 n) x2 x3 h
def f_X6_drawn (a0 : Nat) (a1 : Int32) (h : Hp) : Option (Int32 × Hp) := (if a1 < (1 : Int32) then (some ((-2 : Int32), h)) else (if a1 ≤ (20 : Int32) then f_X6_drawn_18 a0 a1 FU (0 : Int32) (0 : Int32) h else (some ((-2 : Int32), h))))
def f_X6_isSlot (a0 : Int32) (h : Hp) : Option (Int32 × Hp) := (if a0 < 0 then (some ((0 : Int32), h)) else (if (2 : Int32) ≤ a0 then (some ((0 : Int32), h)) else (some ((1 : Int32), h))))
def f_X6_keep (a0 : Nat) (a1 : Int32) (h : Hp) : Option (Int32 × Hp) := (bnd (f_X6_isSlot a1 h) (fun r3 h2 => (if r3 = 0 then (some ((-1 : Int32), h2)) else (if okI a1 (lN_ (rF a0 4)) = true then ((f_X4_takeFrom (rF (rF a0 4) (a1).toNatClampNeg) (rF a0 2) h2).bind (fun h7 => (if okI a1 (lN_ (rF a0 5)) = true then (bnd (f_X4_formCount (rF a0 2) (sI h7 (rF a0 5) (a1).toNatClampNeg (vp_nar .boolean (1 : Int32)))) (fun r12 h11 => (some (r12, h11)))) else none))) else none))))
def f_X6_again (a0 : Nat) (a1 : Int32) (h : Hp) : Option (Int32 × Hp) := (bnd (f_X6_isSlot a1 h) (fun r3 h2 => (if r3 = 0 then (some ((-1 : Int32), h2)) else (if okI a1 (lN_ (rF a0 5)) = true then (if (h2.1 (rF a0 5) (a1).toNatClampNeg) = 0 then (some ((-3 : Int32), h2)) else (if okI a1 (lN_ (rF a0 4)) = true then ((f_X4_takeFrom (rF a0 2) (rF (rF a0 4) (a1).toNatClampNeg) h2).bind (fun h9 => (bnd (f_X4_formCount (rF a0 2) (sI h9 (rF a0 6) 5 (0 : Int32))) (fun r13 h12 => (some (r13, h12)))))) else none)) else none))))
def g_X7_forgetForms_3 (a0 : Nat) (k3 : Int32 → Hp → Option Hp) (x1 : Int32) (h : Hp) : Option Hp := (if (32 : Int32) ≤ x1 then (some h) else (if okI x1 (lN_ (rF a0 2)) = true then k3 (x1 + (1 : Int32)) (sI h (rF a0 2) (x1).toNatClampNeg (-9 : Int32)) else none))
def f_X7_forgetForms_3 (a0 : Nat) : Nat → Int32 → Hp → Option Hp
  | 0 => fun _ _ => none
  | n + 1 => fun x1 h => g_X7_forgetForms_3 a0 (f_X7_forgetForms_3 a0 n) x1 h
def f_X7_forgetForms (a0 : Nat) (h : Hp) : Option Hp := f_X7_forgetForms_3 a0 FU (20 : Int32) h
def f_X7_in (a0 : Int64) (a2 : Int64) (a4 : Int64) (h : Hp) : Option (Int32 × Hp) := (if (lg_cmp a0 a2) < 0 then (some ((0 : Int32), h)) else (if 0 < (lg_cmp a0 a4) then (some ((0 : Int32), h)) else (some ((1 : Int32), h))))
def f_X7_has (a0 : Int32) (a1 : Int32) (h : Hp) : Option (Int32 × Hp) := (if ((a0 >>> (a1 &&& (31 : Int32))) &&& (1 : Int32)) = (1 : Int32) then (some ((1 : Int32), h)) else (some ((0 : Int32), h)))
def g_X7_ones_4 (a0 : Int32) (k4 : Int32 → Int32 → Hp → Option (Int32 × Hp)) (x1 : Int32) (x2 : Int32) (h : Hp) : Option (Int32 × Hp) := (if (4 : Int32) ≤ x2 then (some (x1, h)) else k4 (x1 + ((a0 >>> (x2 &&& (31 : Int32))) &&& (1 : Int32))) (x2 + (1 : Int32)) h)
def f_X7_ones_4 (a0 : Int32) : Nat → Int32 → Int32 → Hp → Option (Int32 × Hp)
  | 0 => fun _ _ _ => none
  | n + 1 => fun x1 x2 h => g_X7_ones_4 a0 (f_X7_ones_4 a0 n) x1 x2 h
def f_X7_ones (a0 : Int32) (h : Hp) : Option (Int32 × Hp) := f_X7_ones_4 a0 FU (0 : Int32) (0 : Int32) h
def g_X7_power_4 (a0 : Int32) (a1 : Int32) (k4 : Int32 → Int32 → Hp → Option (Int32 × Hp)) (x2 : Int32) (x3 : Int32) (h : Hp) : Option (Int32 × Hp) := (if a1 ≤ x3 then (some (x2, h)) else k4 (x2 * a0) (x3 + (1 : Int32)) h)
def f_X7_power_4 (a0 : Int32) (a1 : Int32) : Nat → Int32 → Int32 → Hp → Option (Int32 × Hp)
  | 0 => fun _ _ _ => none
  | n + 1 => fun x2 x3 h => g_X7_power_4 a0 a1 (f_X7_power_4 a0 a1 n) x2 x3 h
def f_X7_power (a0 : Int32) (a1 : Int32) (h : Hp) : Option (Int32 × Hp) := f_X7_power_4 a0 a1 FU (1 : Int32) (0 : Int32) h
def g_X7_factorial_4 (a0 : Int32) (k4 : Int32 → Int32 → Hp → Option (Int32 × Hp)) (x1 : Int32) (x2 : Int32) (h : Hp) : Option (Int32 × Hp) := (if a0 < x2 then (some (x1, h)) else k4 (x1 * x2) (x2 + (1 : Int32)) h)
def f_X7_factorial_4 (a0 : Int32) : Nat → Int32 → Int32 → Hp → Option (Int32 × Hp)
  | 0 => fun _ _ _ => none
  | n + 1 => fun x1 x2 h => g_X7_factorial_4 a0 (f_X7_factorial_4 a0 n) x1 x2 h
def f_X7_factorial (a0 : Int32) (h : Hp) : Option (Int32 × Hp) := f_X7_factorial_4 a0 FU (1 : Int32) (2 : Int32) h
def g_X7_divisor_13 (a0 : Int32) (a1 : Int32) (k13 : Int32 → Int32 → Hp → Option (Int32 × Hp)) (x2 : Int32) (x3 : Int32) (h : Hp) : Option (Int32 × Hp) := (if x3 = 0 then (some (x2, h)) else (if x3 = 0 then none else k13 x3 (x2 - x2 / x3 * x3) h))
def f_X7_divisor_13 (a0 : Int32) (a1 : Int32) : Nat → Int32 → Int32 → Hp → Option (Int32 × Hp)
  | 0 => fun _ _ _ => none
  | n + 1 => fun x2 x3 h => g_X7_divisor_13 a0 a1 (f_X7_divisor_13 a0 a1 n) x2 x3 h
def g_X7_divisor_10 (a0 : Int32) (a1 : Int32) (z0 : Int32) (h : Hp) : Option (Int32 × Hp) := f_X7_divisor_13 a0 a1 FU z0 a1 h
def f_X7_divisor (a0 : Int32) (a1 : Int32) (h : Hp) : Option (Int32 × Hp) := (if 0 ≤ a0 then g_X7_divisor_10 a0 a1 a0 h else g_X7_divisor_10 a0 a1 (-a0) h)
def f_X7_fraction (a0 : Int32) (a1 : Int32) (a2 : Int32) (h : Hp) : Option (Int32 × Hp) := (bnd (f_X7_divisor a0 a1 h) (fun r3 h2 => (if a2 = 0 then (if r3 = 0 then none else (some ((a1 / r3), h2))) else (if r3 = 0 then none else (some ((a0 / r3), h2))))))
def g_X7_size_4 (a0 : Int32) (k4 : Int32 → Int32 → Hp → Option (Int32 × Hp)) (x1 : Int32) (x2 : Int32) (h : Hp) : Option (Int32 × Hp) := (if x2 ≤ 0 then (some (x1, h)) else k4 (x1 + (1 : Int32)) (x2 / (10 : Int32)) h)
def f_X7_size_4 (a0 : Int32) : Nat → Int32 → Int32 → Hp → Option (Int32 × Hp)
  | 0 => fun _ _ _ => none
  | n + 1 => fun x1 x2 h => g_X7_size_4 a0 (f_X7_size_4 a0 n) x1 x2 h
def f_X7_size (a0 : Int32) (h : Hp) : Option (Int32 × Hp) := f_X7_size_4 a0 FU (0 : Int32) a0 h
def f_X7_letterAt (a0 : Int32) (a1 : Int32) (h : Hp) : Option (Int32 × Hp) := (bnd (f_X7_size a0 h) (fun r3 h2 => (if r3 ≤ a1 then (some ((-9 : Int32), h2)) else (bnd (f_X7_power (10 : Int32) ((r3 - (1 : Int32)) - a1) h2) (fun r7 h6 => (if r7 = 0 then none else (some (((a0 / r7) - (a0 / r7) / (10 : Int32) * (10 : Int32)), h6))))))))
def g_X7_isWord_46 (a0 : Int32) (k18 : Int32 → Int32 → Hp → Option (Int32 × Hp)) (x2 : Int32) (z0 : Int32) (h : Hp) : Option (Int32 × Hp) := k18 z0 (x2 / (10 : Int32)) h
def g_X7_isWord_45 (a0 : Int32) (k18 : Int32 → Int32 → Hp → Option (Int32 × Hp)) (x2 : Int32) (h : Hp) : Option (Int32 × Hp) := g_X7_isWord_46 a0 k18 x2 (0 : Int32) h
def g_X7_isWord_18 (a0 : Int32) (k18 : Int32 → Int32 → Hp → Option (Int32 × Hp)) (x1 : Int32) (x2 : Int32) (h : Hp) : Option (Int32 × Hp) := (if x2 ≤ 0 then (if okZ x1 = true then some (x1, h) else none) else (if x1 = 0 then g_X7_isWord_45 a0 k18 x2 h else (bnd (f_X7_in (((x2 - x2 / (10 : Int32) * (10 : Int32))).toInt64) (1 : Int64) (5 : Int64) h) (fun r6 h5 => (if r6 = 0 then g_X7_isWord_45 a0 k18 x2 h5 else g_X7_isWord_46 a0 k18 x2 (1 : Int32) h5)))))
def f_X7_isWord_18 (a0 : Int32) : Nat → Int32 → Int32 → Hp → Option (Int32 × Hp)
  | 0 => fun _ _ _ => none
  | n + 1 => fun x1 x2 h => g_X7_isWord_18 a0 (f_X7_isWord_18 a0 n) x1 x2 h
def f_X7_isWord (a0 : Int32) (h : Hp) : Option (Int32 × Hp) := (bnd (f_X7_in ((a0).toInt64) (0 : Int64) (555555 : Int64) h) (fun r10 h9 => (if r10 = 0 then (some ((0 : Int32), h9)) else f_X7_isWord_18 a0 FU (1 : Int32) a0 h9)))
def f_X7_fits (a0 : Int32) (a1 : Int32) (h : Hp) : Option (Int32 × Hp) := (if a0 = (6 : Int32) then (some ((1 : Int32), h)) else (if a0 = (7 : Int32) then (if a1 = 0 then (some ((1 : Int32), h)) else (some ((0 : Int32), h))) else (if a1 = a0 then (some ((1 : Int32), h)) else (some ((0 : Int32), h)))))
def g_X7_changed_117 (a0 : Nat) (a1 : Int32) (a2 : Int32) (k18 : Int32 → Int32 → Int32 → Int32 → Int32 → Hp → Option (Int32 × Hp)) (x3 : Int32) (x4 : Int32) (x7 : Int32) (x8 : Int32) (z0 : Int32) (z1 : Int32) (h : Hp) : Option (Int32 × Hp) := k18 x3 x4 (z0 * z1) x8 (x7 / (10 : Int32)) h
def g_X7_changed_92 (a0 : Nat) (a1 : Int32) (a2 : Int32) (k18 : Int32 → Int32 → Int32 → Int32 → Int32 → Hp → Option (Int32 × Hp)) (x3 : Int32) (x4 : Int32) (x5 : Int32) (x7 : Int32) (x8 : Int32) (z0 : Int32) (h : Hp) : Option (Int32 × Hp) := (if z0 = 0 then g_X7_changed_117 a0 a1 a2 k18 x3 (x4 + (x5 * z0)) x7 x8 x5 (1 : Int32) h else g_X7_changed_117 a0 a1 a2 k18 x3 (x4 + (x5 * z0)) x7 x8 x5 (10 : Int32) h)
def g_X7_changed_75 (a0 : Nat) (a1 : Int32) (a2 : Int32) (k18 : Int32 → Int32 → Int32 → Int32 → Int32 → Hp → Option (Int32 × Hp)) (x3 : Int32) (x4 : Int32) (x5 : Int32) (x7 : Int32) (x8 : Int32) (z0 : Int32) (h : Hp) : Option (Int32 × Hp) := (if z0 = 0 then g_X7_changed_92 a0 a1 a2 k18 x3 x4 x5 x7 x8 x8 h else (if okI (x3 + (1 : Int32)) (lN_ a0) = true then g_X7_changed_92 a0 a1 a2 k18 x3 x4 x5 x7 x8 (h.1 a0 ((x3 + (1 : Int32))).toNatClampNeg) h else none))
def g_X7_changed_74 (a0 : Nat) (a1 : Int32) (a2 : Int32) (k18 : Int32 → Int32 → Int32 → Int32 → Int32 → Hp → Option (Int32 × Hp)) (x3 : Int32) (x4 : Int32) (x5 : Int32) (x7 : Int32) (x8 : Int32) (h : Hp) : Option (Int32 × Hp) := g_X7_changed_75 a0 a1 a2 k18 x3 x4 x5 x7 x8 (0 : Int32) h
def g_X7_changed_18 (a0 : Nat) (a1 : Int32) (a2 : Int32) (k18 : Int32 → Int32 → Int32 → Int32 → Int32 → Hp → Option (Int32 × Hp)) (x3 : Int32) (x4 : Int32) (x5 : Int32) (x6 : Int32) (x7 : Int32) (h : Hp) : Option (Int32 × Hp) := (if x7 ≤ 0 then (some (x4, h)) else (if okI x3 (lN_ a0) = true then (if (x7 - x7 / (10 : Int32) * (10 : Int32)) = (h.1 a0 (x3).toNatClampNeg) then (if okI (x3 + (2 : Int32)) (lN_ a0) = true then (bnd (f_X7_fits (h.1 a0 ((x3 + (2 : Int32))).toNatClampNeg) ((x7 / (10 : Int32)) - (x7 / (10 : Int32)) / (10 : Int32) * (10 : Int32)) h) (fun r10 h9 => (if r10 = 0 then g_X7_changed_74 a0 a1 a2 k18 x3 x4 x5 x7 (x7 - x7 / (10 : Int32) * (10 : Int32)) h9 else (if okI (x3 + (3 : Int32)) (lN_ a0) = true then (bnd (f_X7_fits (h9.1 a0 ((x3 + (3 : Int32))).toNatClampNeg) x6 h9) (fun r15 h14 => (if r15 = 0 then g_X7_changed_74 a0 a1 a2 k18 x3 x4 x5 x7 (x7 - x7 / (10 : Int32) * (10 : Int32)) h14 else g_X7_changed_75 a0 a1 a2 k18 x3 x4 x5 x7 (x7 - x7 / (10 : Int32) * (10 : Int32)) (1 : Int32) h14))) else none)))) else none) else g_X7_changed_74 a0 a1 a2 k18 x3 x4 x5 x7 (x7 - x7 / (10 : Int32) * (10 : Int32)) h) else none))
def f_X7_changed_18 (a0 : Nat) (a1 : Int32) (a2 : Int32) : Nat → Int32 → Int32 → Int32 → Int32 → Int32 → Hp → Option (Int32 × Hp)
  | 0 => fun _ _ _ _ _ _ => none
  | n + 1 => fun x3 x4 x5 x6 x7 h => g_X7_changed_18 a0 a1 a2 (f_X7_changed_18 a0 a1 a2 n) x3 x4 x5 x6 x7 h
def f_X7_changed (a0 : Nat) (a1 : Int32) (a2 : Int32) (h : Hp) : Option (Int32 × Hp) := f_X7_changed_18 a0 a1 a2 FU ((4 : Int32) + ((4 : Int32) * a1)) (0 : Int32) (1 : Int32) (0 : Int32) a2 h
def g_X7_behindAll_38 (a0 : Nat) (a1 : Int32) (a2 : Int32) (a3 : Int32) (k6 : Int32 → Int32 → Hp → Option (Int32 × Hp)) (x5 : Int32) (z0 : Int32) (h : Hp) : Option (Int32 × Hp) := k6 z0 (x5 + (1 : Int32)) h
def g_X7_behindAll_6 (a0 : Nat) (a1 : Int32) (a2 : Int32) (a3 : Int32) (k6 : Int32 → Int32 → Hp → Option (Int32 × Hp)) (x4 : Int32) (x5 : Int32) (h : Hp) : Option (Int32 × Hp) := (if a2 ≤ x5 then (some (x4, h)) else (if okI x5 (lN_ a0) = true then (bnd (f_X7_has a3 (h.1 a0 (x5).toNatClampNeg) h) (fun r5 h4 => (if r5 = 0 then g_X7_behindAll_38 a0 a1 a2 a3 k6 x5 x4 h4 else (if okI x5 (lN_ a0) = true then (bnd (f_X7_changed a0 (h4.1 a0 (x5).toNatClampNeg) x4 h4) (fun r10 h9 => g_X7_behindAll_38 a0 a1 a2 a3 k6 x5 r10 h9)) else none)))) else none))
def f_X7_behindAll_6 (a0 : Nat) (a1 : Int32) (a2 : Int32) (a3 : Int32) : Nat → Int32 → Int32 → Hp → Option (Int32 × Hp)
  | 0 => fun _ _ _ => none
  | n + 1 => fun x4 x5 h => g_X7_behindAll_6 a0 a1 a2 a3 (f_X7_behindAll_6 a0 a1 a2 a3 n) x4 x5 h
def f_X7_behindAll (a0 : Nat) (a1 : Int32) (a2 : Int32) (a3 : Int32) (h : Hp) : Option (Int32 × Hp) := f_X7_behindAll_6 a0 a1 a2 a3 FU a1 (0 : Int32) h
def f_X7_join (a0 : Int32) (a1 : Int32) (h : Hp) : Option (Int32 × Hp) := (bnd (f_X7_size a1 h) (fun r3 h2 => (bnd (f_X7_power (10 : Int32) r3 h2) (fun r6 h5 => (some (((a0 * r6) + a1), h5))))))
def f_X7_raw (a0 : Nat) (a1 : Int32) (a2 : Int32) (h : Hp) : Option (Int32 × Hp) := (if okI a1 (lN_ (rF a0 9)) = true then (if okI a2 (lN_ (rF a0 10)) = true then (bnd (f_X7_join (h.1 (rF a0 9) (a1).toNatClampNeg) (h.1 (rF a0 10) (a2).toNatClampNeg) h) (fun r5 h4 => (some (r5, h4)))) else none) else none)
def f_X7_madeBy (a0 : Nat) (a1 : Nat) (a2 : Int32) (a3 : Int32) (a4 : Int32) (h : Hp) : Option (Int32 × Hp) := (bnd (f_X7_raw a0 a2 a3 h) (fun r3 h2 => (bnd (f_X7_behindAll a1 r3 (h2.1 a0 13) a4 h2) (fun r6 h5 => (some (r6, h5))))))
def f_X7_isRoot (a0 : Nat) (a1 : Int32) (h : Hp) : Option (Int32 × Hp) := (bnd (f_X7_in ((a1).toInt64) (0 : Int64) ((((h.1 a0 11) - (1 : Int32))).toInt64) h) (fun r3 h2 => (if okZ r3 = true then some (r3, h2) else none)))
def f_X7_isEnding (a0 : Nat) (a1 : Int32) (h : Hp) : Option (Int32 × Hp) := (bnd (f_X7_in ((a1).toInt64) (0 : Int64) ((((h.1 a0 12) - (1 : Int32))).toInt64) h) (fun r3 h2 => (if okZ r3 = true then some (r3, h2) else none)))
def f_X7_isChange (a0 : Nat) (a1 : Int32) (h : Hp) : Option (Int32 × Hp) := (bnd (f_X7_in ((a1).toInt64) (0 : Int64) ((((h.1 a0 13) - (1 : Int32))).toInt64) h) (fun r3 h2 => (if okZ r3 = true then some (r3, h2) else none)))
def f_X7_write (a0 : Nat) (a1 : Int32) (h : Hp) : Option (Int32 × Hp) := (bnd (f_X7_in ((a1).toInt64) (0 : Int64) (255 : Int64) h) (fun r3 h2 => (if r3 = 0 then (some ((-2 : Int32), h2)) else (if (h2.1 a0 1) = (60 : Int32) then (some ((-4 : Int32), h2)) else (if okI (h2.1 a0 1) (lN_ (rF a0 0)) = true then (some (((sI (sI h2 (rF a0 0) ((h2.1 a0 1)).toNatClampNeg a1) a0 1 (((sI h2 (rF a0 0) ((h2.1 a0 1)).toNatClampNeg a1).1 a0 1) + (1 : Int32))).1 a0 1), (sI (sI h2 (rF a0 0) ((h2.1 a0 1)).toNatClampNeg a1) a0 1 (((sI h2 (rF a0 0) ((h2.1 a0 1)).toNatClampNeg a1).1 a0 1) + (1 : Int32))))) else none)))))
def f_X7_wipe (a0 : Nat) (h : Hp) : Option (Int32 × Hp) := (some ((h.1 a0 1), (sI h a0 1 (0 : Int32))))
def g_X7_begun_32 (a0 : Nat) (a1 : Int32) (h : Hp) : Option (Int32 × Hp) := (if a1 = (67 : Int32) then (if (4 : Int32) ≤ (h.1 a0 19) then (some ((0 : Int32), h)) else (some ((3 : Int32), h))) else (some ((0 : Int32), h)))
def g_X7_begun_16 (a0 : Nat) (a1 : Int32) (h : Hp) : Option (Int32 × Hp) := (if a1 = (69 : Int32) then (if (3 : Int32) ≤ (h.1 a0 18) then g_X7_begun_32 a0 a1 h else (some ((2 : Int32), h))) else g_X7_begun_32 a0 a1 h)
def f_X7_begun (a0 : Nat) (a1 : Int32) (h : Hp) : Option (Int32 × Hp) := (if a1 = (82 : Int32) then (if (4 : Int32) ≤ (h.1 a0 17) then g_X7_begun_16 a0 a1 h else (some ((1 : Int32), h))) else g_X7_begun_16 a0 a1 h)
def f_X7_isLetter (a0 : Int32) (h : Hp) : Option (Int32 × Hp) := (bnd (f_X7_in ((a0).toInt64) (97 : Int64) (101 : Int64) h) (fun r3 h2 => (if okZ r3 = true then some (r3, h2) else none)))
def f_X7_signOf (a0 : Int32) (a1 : Int32) (h : Hp) : Option (Int32 × Hp) := (bnd (f_X7_isLetter a0 h) (fun r3 h2 => (if r3 = 0 then (if a1 = (1 : Int32) then (if a0 = (45 : Int32) then (some ((0 : Int32), h2)) else (some ((-9 : Int32), h2))) else (if a1 = 0 then (some ((-9 : Int32), h2)) else (if a0 = (42 : Int32) then (some ((6 : Int32), h2)) else (if a0 = (46 : Int32) then (some ((7 : Int32), h2)) else (some ((-9 : Int32), h2)))))) else (some ((a0 - (96 : Int32)), h2)))))
def f_X7_mostOf (a0 : Int32) (h : Hp) : Option (Int32 × Hp) := (if a0 = (1 : Int32) then (some ((4 : Int32), h)) else (if a0 = (2 : Int32) then (some ((2 : Int32), h)) else (if a0 = (3 : Int32) then (some ((4 : Int32), h)) else (some ((0 : Int32), h)))))
def g_X7_mayEnd_21 (a0 : Int32) (a1 : Int32) (h : Hp) : Option (Int32 × Hp) := (some ((1 : Int32), h))
def f_X7_mayEnd (a0 : Int32) (a1 : Int32) (h : Hp) : Option (Int32 × Hp) := (if a0 = 0 then g_X7_mayEnd_21 a0 a1 h else (if a0 = (3 : Int32) then (if a1 = (4 : Int32) then g_X7_mayEnd_21 a0 a1 h else (some ((0 : Int32), h))) else (if a1 ≤ 0 then (some ((0 : Int32), h)) else g_X7_mayEnd_21 a0 a1 h)))
def f_X7_begin (a0 : Nat) (a1 : Int32) (h : Hp) : Option Hp := (if a1 = (1 : Int32) then (if okI ((sI h a0 20 ((h.1 a0 20) + (1 : Int32))).1 a0 17) (lN_ (rF a0 14)) = true then (some (sI (sI (sI h a0 20 ((h.1 a0 20) + (1 : Int32))) (rF a0 14) (((sI h a0 20 ((h.1 a0 20) + (1 : Int32))).1 a0 17)).toNatClampNeg (0 : Int32)) a0 17 (((sI (sI h a0 20 ((h.1 a0 20) + (1 : Int32))) (rF a0 14) (((sI h a0 20 ((h.1 a0 20) + (1 : Int32))).1 a0 17)).toNatClampNeg (0 : Int32)).1 a0 17) + (1 : Int32)))) else none) else (if a1 = (2 : Int32) then (if okI ((sI h a0 20 ((h.1 a0 20) + (1 : Int32))).1 a0 18) (lN_ (rF a0 15)) = true then (some (sI (sI (sI h a0 20 ((h.1 a0 20) + (1 : Int32))) (rF a0 15) (((sI h a0 20 ((h.1 a0 20) + (1 : Int32))).1 a0 18)).toNatClampNeg (0 : Int32)) a0 18 (((sI (sI h a0 20 ((h.1 a0 20) + (1 : Int32))) (rF a0 15) (((sI h a0 20 ((h.1 a0 20) + (1 : Int32))).1 a0 18)).toNatClampNeg (0 : Int32)).1 a0 18) + (1 : Int32)))) else none) else (some (sI (sI h a0 20 ((h.1 a0 20) + (1 : Int32))) a0 19 (((sI h a0 20 ((h.1 a0 20) + (1 : Int32))).1 a0 19) + (1 : Int32))))))
def g_X7_take_39 (a0 : Nat) (a1 : Int32) (a2 : Int32) (a3 : Int32) (z0 : Int32) (h : Hp) : Option (Int32 × Hp) := (if z0 = (-9 : Int32) then (some ((0 : Int32), h)) else (if a1 = (1 : Int32) then (if okI ((h.1 a0 17) - (1 : Int32)) (lN_ (rF a0 14)) = true then (if okI ((h.1 a0 17) - (1 : Int32)) (lN_ (rF a0 14)) = true then (some ((1 : Int32), (sI h (rF a0 14) (((h.1 a0 17) - (1 : Int32))).toNatClampNeg (((10 : Int32) * (h.1 (rF a0 14) (((h.1 a0 17) - (1 : Int32))).toNatClampNeg)) + z0)))) else none) else none) else (if a1 = (2 : Int32) then (if okI ((h.1 a0 18) - (1 : Int32)) (lN_ (rF a0 15)) = true then (if okI ((h.1 a0 18) - (1 : Int32)) (lN_ (rF a0 15)) = true then (some ((1 : Int32), (sI h (rF a0 15) (((h.1 a0 18) - (1 : Int32))).toNatClampNeg (((10 : Int32) * (h.1 (rF a0 15) (((h.1 a0 18) - (1 : Int32))).toNatClampNeg)) + z0)))) else none) else none) else (if okI (((4 : Int32) * ((h.1 a0 19) - (1 : Int32))) + a2) (lN_ (rF a0 16)) = true then (some ((1 : Int32), (sI h (rF a0 16) ((((4 : Int32) * ((h.1 a0 19) - (1 : Int32))) + a2)).toNatClampNeg z0))) else none))))
def f_X7_take (a0 : Nat) (a1 : Int32) (a2 : Int32) (a3 : Int32) (h : Hp) : Option (Int32 × Hp) := (bnd (f_X7_mostOf a1 h) (fun r11 h10 => (if a2 < r11 then (if a1 = (3 : Int32) then (bnd (f_X7_signOf a3 a2 h10) (fun r20 h19 => g_X7_take_39 a0 a1 a2 a3 r20 h19)) else (bnd (f_X7_isLetter a3 h10) (fun r16 h15 => (if r16 = 0 then g_X7_take_39 a0 a1 a2 a3 (-9 : Int32) h15 else g_X7_take_39 a0 a1 a2 a3 (a3 - (96 : Int32)) h15)))) else (some ((0 : Int32), h10)))))
def g_X7_readText_140 (a0 : Nat) (x3 : Int32) (z0 : Int32) (h : Hp) : Option (Int32 × Hp) := (if z0 = 0 then (some (x3, (sI h a0 21 (h.1 a0 20)))) else (some (x3, (sI h a0 21 ((h.1 a0 20) - (1 : Int32))))))
def g_X7_readText_135 (a0 : Nat) (x3 : Int32) (h : Hp) : Option (Int32 × Hp) := g_X7_readText_140 a0 x3 (1 : Int32) h
def g_X7_readText_139 (a0 : Nat) (x3 : Int32) (h : Hp) : Option (Int32 × Hp) := g_X7_readText_140 a0 x3 (0 : Int32) h
def g_X7_readText_123 (a0 : Nat) (x3 : Int32) (h : Hp) : Option (Int32 × Hp) := (if okI x3 (lN_ (rF a0 0)) = true then (bnd (f_X7_isLetter (h.1 (rF a0 0) (x3).toNatClampNeg) h) (fun r5 h4 => (if r5 = 0 then g_X7_readText_139 a0 x3 h4 else g_X7_readText_135 a0 x3 h4))) else none)
def g_X7_readText_166 (a0 : Nat) (k32 : Int32 → Int32 → Int32 → Hp → Option (Int32 × Hp)) (x1 : Int32) (x2 : Int32) (x3 : Int32) (h : Hp) : Option (Int32 × Hp) := k32 x1 x2 (x3 + (1 : Int32)) h
def g_X7_readText_66 (a0 : Nat) (k32 : Int32 → Int32 → Int32 → Hp → Option (Int32 × Hp)) (x1 : Int32) (x2 : Int32) (x3 : Int32) (x4 : Int32) (z0 : Int32) (h : Hp) : Option (Int32 × Hp) := (if z0 ≤ 0 then (if okI x3 (lN_ (rF a0 0)) = true then (bnd (f_X7_take a0 x1 x2 (h.1 (rF a0 0) (x3).toNatClampNeg) h) (fun r11 h10 => (if r11 = 0 then (if x4 = 0 then g_X7_readText_135 a0 x3 h10 else (if x1 = (1 : Int32) then g_X7_readText_123 a0 x3 h10 else (if x1 = (2 : Int32) then g_X7_readText_123 a0 x3 h10 else g_X7_readText_139 a0 x3 h10))) else g_X7_readText_166 a0 k32 x1 (x2 + (1 : Int32)) x3 h10))) else none) else ((f_X7_begin a0 z0 h).bind (fun h17 => g_X7_readText_166 a0 k32 z0 (0 : Int32) x3 h17)))
def g_X7_readText_32 (a0 : Nat) (k32 : Int32 → Int32 → Int32 → Hp → Option (Int32 × Hp)) (x1 : Int32) (x2 : Int32) (x3 : Int32) (h : Hp) : Option (Int32 × Hp) := (if (h.1 a0 1) ≤ x3 then (bnd (f_X7_mayEnd x1 x2 h) (fun r22 h21 => (if r22 = 0 then (some (((sI h21 a0 21 ((h21.1 a0 20) - (1 : Int32))).1 a0 1), (sI h21 a0 21 ((h21.1 a0 20) - (1 : Int32))))) else (some ((-9 : Int32), h21))))) else (bnd (f_X7_mayEnd x1 x2 h) (fun r26 h25 => (if r26 = 0 then g_X7_readText_66 a0 k32 x1 x2 x3 r26 (0 : Int32) h25 else (if okI x3 (lN_ (rF a0 0)) = true then (bnd (f_X7_begun a0 (h25.1 (rF a0 0) (x3).toNatClampNeg) h25) (fun r31 h30 => g_X7_readText_66 a0 k32 x1 x2 x3 r26 r31 h30)) else none)))))
def f_X7_readText_32 (a0 : Nat) : Nat → Int32 → Int32 → Int32 → Hp → Option (Int32 × Hp)
  | 0 => fun _ _ _ _ => none
  | n + 1 => fun x1 x2 x3 h => g_X7_readText_32 a0 (f_X7_readText_32 a0 n) x1 x2 x3 h
def f_X7_readText (a0 : Nat) (h : Hp) : Option (Int32 × Hp) := f_X7_readText_32 a0 FU (0 : Int32) (0 : Int32) (0 : Int32) (sI (sI (sI (sI (sI h a0 17 (0 : Int32)) a0 18 (0 : Int32)) a0 19 (0 : Int32)) a0 20 (0 : Int32)) a0 21 (-9 : Int32))
def f_X7_fault (a0 : Nat) (a1 : Int32) (h : Hp) : Option (Int32 × Hp) := (bnd (f_X7_in ((a1).toInt64) (0 : Int64) (1 : Int64) h) (fun r3 h2 => (if r3 = 0 then (some ((-2 : Int32), h2)) else (bnd (f_X7_readText a0 h2) (fun r7 h6 => (if a1 = 0 then (some (r7, h6)) else (some ((h6.1 a0 21), h6))))))))
def g_X7_list_117 (a0 : Nat) (k117 : Int32 → Hp → Option (Int32 × Hp)) (x1 : Int32) (h : Hp) : Option (Int32 × Hp) := (if ((4 : Int32) * (h.1 a0 13)) ≤ x1 then ((f_X7_forgetForms a0 h).bind (fun h3 => (if okI (0 : Int32) (lN_ (rF a0 8)) = true then (if okI (1 : Int32) (lN_ (rF a0 8)) = true then (some (((sI (sI (sI h3 a0 5 (0 : Int32)) (rF a0 8) ((0 : Int32)).toNatClampNeg (vp_nar .boolean (0 : Int32))) (rF a0 8) ((1 : Int32)).toNatClampNeg (vp_nar .boolean (0 : Int32))).1 a0 20), (sI (sI (sI h3 a0 5 (0 : Int32)) (rF a0 8) ((0 : Int32)).toNatClampNeg (vp_nar .boolean (0 : Int32))) (rF a0 8) ((1 : Int32)).toNatClampNeg (vp_nar .boolean (0 : Int32))))) else none) else none))) else (if okI x1 (lN_ (rF a0 16)) = true then (if okI ((4 : Int32) + x1) (lN_ (rF a0 2)) = true then k117 (x1 + (1 : Int32)) (sI h (rF a0 2) (((4 : Int32) + x1)).toNatClampNeg (h.1 (rF a0 16) (x1).toNatClampNeg)) else none) else none))
def f_X7_list_117 (a0 : Nat) : Nat → Int32 → Hp → Option (Int32 × Hp)
  | 0 => fun _ _ => none
  | n + 1 => fun x1 h => g_X7_list_117 a0 (f_X7_list_117 a0 n) x1 h
def g_X7_list_94 (a0 : Nat) (k94 : Int32 → Hp → Option (Int32 × Hp)) (x1 : Int32) (h : Hp) : Option (Int32 × Hp) := (if (h.1 a0 13) ≤ x1 then f_X7_list_117 a0 FU (0 : Int32) h else (if okI x1 (lN_ (rF a0 2)) = true then k94 (x1 + (1 : Int32)) (sI h (rF a0 2) (x1).toNatClampNeg x1) else none))
def f_X7_list_94 (a0 : Nat) : Nat → Int32 → Hp → Option (Int32 × Hp)
  | 0 => fun _ _ => none
  | n + 1 => fun x1 h => g_X7_list_94 a0 (f_X7_list_94 a0 n) x1 h
def g_X7_list_66 (a0 : Nat) (k66 : Int32 → Hp → Option (Int32 × Hp)) (x1 : Int32) (h : Hp) : Option (Int32 × Hp) := (if (h.1 a0 12) ≤ x1 then f_X7_list_94 a0 FU (0 : Int32) h else (if okI x1 (lN_ (rF a0 15)) = true then (if okI x1 (lN_ (rF a0 10)) = true then k66 (x1 + (1 : Int32)) (sI h (rF a0 10) (x1).toNatClampNeg (h.1 (rF a0 15) (x1).toNatClampNeg)) else none) else none))
def f_X7_list_66 (a0 : Nat) : Nat → Int32 → Hp → Option (Int32 × Hp)
  | 0 => fun _ _ => none
  | n + 1 => fun x1 h => g_X7_list_66 a0 (f_X7_list_66 a0 n) x1 h
def g_X7_list_38 (a0 : Nat) (k38 : Int32 → Hp → Option (Int32 × Hp)) (x1 : Int32) (h : Hp) : Option (Int32 × Hp) := (if (h.1 a0 11) ≤ x1 then f_X7_list_66 a0 FU (0 : Int32) h else (if okI x1 (lN_ (rF a0 14)) = true then (if okI x1 (lN_ (rF a0 9)) = true then k38 (x1 + (1 : Int32)) (sI h (rF a0 9) (x1).toNatClampNeg (h.1 (rF a0 14) (x1).toNatClampNeg)) else none) else none))
def f_X7_list_38 (a0 : Nat) : Nat → Int32 → Hp → Option (Int32 × Hp)
  | 0 => fun _ _ => none
  | n + 1 => fun x1 h => g_X7_list_38 a0 (f_X7_list_38 a0 n) x1 h
def f_X7_list (a0 : Nat) (h : Hp) : Option (Int32 × Hp) := (bnd (f_X7_readText a0 h) (fun r19 h18 => (if r19 = (-9 : Int32) then f_X7_list_38 a0 FU (0 : Int32) (sI (sI (sI h18 a0 11 (h18.1 a0 17)) a0 12 ((sI h18 a0 11 (h18.1 a0 17)).1 a0 18)) a0 13 ((sI (sI h18 a0 11 (h18.1 a0 17)) a0 12 ((sI h18 a0 11 (h18.1 a0 17)).1 a0 18)).1 a0 19)) else (some ((-3 : Int32), h18)))))
def g_X7_unlike_75 (a0 : Nat) (a1 : Nat) (a2 : Int32) (k5 : Int32 → Int32 → Hp → Option (Int32 × Hp)) (k47 : Int32 → Int32 → Int32 → Int32 → Int32 → Hp → Option (Int32 × Hp)) (x3 : Int32) (x4 : Int32) (x5 : Int32) (x7 : Int32) (z0 : Int32) (h : Hp) : Option (Int32 × Hp) := k47 x3 x4 x5 z0 (x7 + (1 : Int32)) h
def g_X7_unlike_70 (a0 : Nat) (a1 : Nat) (a2 : Int32) (k5 : Int32 → Int32 → Hp → Option (Int32 × Hp)) (k47 : Int32 → Int32 → Int32 → Int32 → Int32 → Hp → Option (Int32 × Hp)) (x3 : Int32) (x4 : Int32) (x5 : Int32) (x7 : Int32) (h : Hp) : Option (Int32 × Hp) := g_X7_unlike_75 a0 a1 a2 k5 k47 x3 x4 x5 x7 (1 : Int32) h
def g_X7_unlike_99 (a0 : Nat) (a1 : Nat) (a2 : Int32) (k5 : Int32 → Int32 → Hp → Option (Int32 × Hp)) (x3 : Int32) (x4 : Int32) (h : Hp) : Option (Int32 × Hp) := k5 x3 (x4 + (1 : Int32)) h
def g_X7_unlike_47 (a0 : Nat) (a1 : Nat) (a2 : Int32) (k5 : Int32 → Int32 → Hp → Option (Int32 × Hp)) (k47 : Int32 → Int32 → Int32 → Int32 → Int32 → Hp → Option (Int32 × Hp)) (x3 : Int32) (x4 : Int32) (x5 : Int32) (x6 : Int32) (x7 : Int32) (h : Hp) : Option (Int32 × Hp) := (if x3 ≤ x7 then (if x6 = 0 then (if okI x3 (lN_ (rF a0 28)) = true then g_X7_unlike_99 a0 a1 a2 k5 (x3 + (1 : Int32)) x4 (sI h (rF a0 28) (x3).toNatClampNeg x5) else none) else g_X7_unlike_99 a0 a1 a2 k5 x3 x4 h) else (if x6 = 0 then (if okI x7 (lN_ (rF a0 28)) = true then (if (h.1 (rF a0 28) (x7).toNatClampNeg) = x5 then g_X7_unlike_70 a0 a1 a2 k5 k47 x3 x4 x5 x7 h else g_X7_unlike_75 a0 a1 a2 k5 k47 x3 x4 x5 x7 (0 : Int32) h) else none) else g_X7_unlike_70 a0 a1 a2 k5 k47 x3 x4 x5 x7 h))
def f_X7_unlike_47 (a0 : Nat) (a1 : Nat) (a2 : Int32) (k5 : Int32 → Int32 → Hp → Option (Int32 × Hp)) : Nat → Int32 → Int32 → Int32 → Int32 → Int32 → Hp → Option (Int32 × Hp)
  | 0 => fun _ _ _ _ _ _ => none
  | n + 1 => fun x3 x4 x5 x6 x7 h => g_X7_unlike_47 a0 a1 a2 k5 (f_X7_unlike_47 a0 a1 a2 k5 n) x3 x4 x5 x6 x7 h
def g_X7_unlike_5 (a0 : Nat) (a1 : Nat) (a2 : Int32) (k5 : Int32 → Int32 → Hp → Option (Int32 × Hp)) (x3 : Int32) (x4 : Int32) (h : Hp) : Option (Int32 × Hp) := (if ((h.1 a0 11) * (h.1 a0 12)) ≤ x4 then (some (x3, h)) else (if (h.1 a0 12) = 0 then none else (if (h.1 a0 12) = 0 then none else (bnd (f_X7_madeBy a0 a1 (x4 / (h.1 a0 12)) (x4 - x4 / (h.1 a0 12) * (h.1 a0 12)) a2 h) (fun r12 h11 => f_X7_unlike_47 a0 a1 a2 k5 FU x3 x4 r12 (0 : Int32) (0 : Int32) h11)))))
def f_X7_unlike_5 (a0 : Nat) (a1 : Nat) (a2 : Int32) : Nat → Int32 → Int32 → Hp → Option (Int32 × Hp)
  | 0 => fun _ _ _ => none
  | n + 1 => fun x3 x4 h => g_X7_unlike_5 a0 a1 a2 (f_X7_unlike_5 a0 a1 a2 n) x3 x4 h
def f_X7_unlike (a0 : Nat) (a1 : Nat) (a2 : Int32) (h : Hp) : Option (Int32 × Hp) := f_X7_unlike_5 a0 a1 a2 FU (0 : Int32) (0 : Int32) h
def g_X7_active_77 (a0 : Nat) (a1 : Nat) (k4 : Int32 → Int32 → Hp → Option (Int32 × Hp)) (k38 : Int32 → Int32 → Int32 → Int32 → Hp → Option (Int32 × Hp)) (x3 : Int32) (x5 : Int32) (x6 : Int32) (z0 : Int32) (z1 : Int32) (h : Hp) : Option (Int32 × Hp) := k38 (z0 ||| z1) x3 x6 (x5 + (1 : Int32)) h
def g_X7_active_38 (a0 : Nat) (a1 : Nat) (k4 : Int32 → Int32 → Hp → Option (Int32 × Hp)) (k38 : Int32 → Int32 → Int32 → Int32 → Hp → Option (Int32 × Hp)) (x2 : Int32) (x3 : Int32) (x4 : Int32) (x5 : Int32) (h : Hp) : Option (Int32 × Hp) := (if (h.1 a0 13) ≤ x5 then k4 x2 (x3 + (1 : Int32)) h else (if okI x5 (lN_ a1) = true then (bnd (f_X7_changed a1 (h.1 a1 (x5).toNatClampNeg) x4 h) (fun r5 h4 => (if r5 = x4 then g_X7_active_77 a0 a1 k4 k38 x3 x5 r5 x2 (0 : Int32) h4 else (if okI x5 (lN_ a1) = true then g_X7_active_77 a0 a1 k4 k38 x3 x5 r5 x2 ((1 : Int32) <<< ((h4.1 a1 (x5).toNatClampNeg) &&& (31 : Int32))) h4 else none)))) else none))
def f_X7_active_38 (a0 : Nat) (a1 : Nat) (k4 : Int32 → Int32 → Hp → Option (Int32 × Hp)) : Nat → Int32 → Int32 → Int32 → Int32 → Hp → Option (Int32 × Hp)
  | 0 => fun _ _ _ _ _ => none
  | n + 1 => fun x2 x3 x4 x5 h => g_X7_active_38 a0 a1 k4 (f_X7_active_38 a0 a1 k4 n) x2 x3 x4 x5 h
def g_X7_active_4 (a0 : Nat) (a1 : Nat) (k4 : Int32 → Int32 → Hp → Option (Int32 × Hp)) (x2 : Int32) (x3 : Int32) (h : Hp) : Option (Int32 × Hp) := (if ((h.1 a0 11) * (h.1 a0 12)) ≤ x3 then (some (x2, h)) else (if (h.1 a0 12) = 0 then none else (if (h.1 a0 12) = 0 then none else (bnd (f_X7_raw a0 (x3 / (h.1 a0 12)) (x3 - x3 / (h.1 a0 12) * (h.1 a0 12)) h) (fun r13 h12 => f_X7_active_38 a0 a1 k4 FU x2 x3 r13 (0 : Int32) h12)))))
def f_X7_active_4 (a0 : Nat) (a1 : Nat) : Nat → Int32 → Int32 → Hp → Option (Int32 × Hp)
  | 0 => fun _ _ _ => none
  | n + 1 => fun x2 x3 h => g_X7_active_4 a0 a1 (f_X7_active_4 a0 a1 n) x2 x3 h
def f_X7_active (a0 : Nat) (a1 : Nat) (h : Hp) : Option (Int32 × Hp) := f_X7_active_4 a0 a1 FU (0 : Int32) (0 : Int32) h
def g_X7_exceptions_65 (a0 : Nat) (a1 : Nat) (k4 : Int32 → Int32 → Hp → Option (Int32 × Hp)) (k15 : Int32 → Int32 → Int32 → Hp → Option (Int32 × Hp)) (x3 : Int32) (x4 : Int32) (z0 : Int32) (z1 : Int32) (h : Hp) : Option (Int32 × Hp) := k15 (z0 + z1) x3 (x4 + (1 : Int32)) h
def g_X7_exceptions_64 (a0 : Nat) (a1 : Nat) (k4 : Int32 → Int32 → Hp → Option (Int32 × Hp)) (k15 : Int32 → Int32 → Int32 → Hp → Option (Int32 × Hp)) (x3 : Int32) (x4 : Int32) (z0 : Int32) (h : Hp) : Option (Int32 × Hp) := g_X7_exceptions_65 a0 a1 k4 k15 x3 x4 z0 (0 : Int32) h
def g_X7_exceptions_15 (a0 : Nat) (a1 : Nat) (k4 : Int32 → Int32 → Hp → Option (Int32 × Hp)) (k15 : Int32 → Int32 → Int32 → Hp → Option (Int32 × Hp)) (x2 : Int32) (x3 : Int32) (x4 : Int32) (h : Hp) : Option (Int32 × Hp) := (if (h.1 a0 12) ≤ x4 then k4 x2 (x3 + (1 : Int32)) h else (if okI (((20 : Int32) + ((3 : Int32) * x3)) + x4) (lN_ a1) = true then (if (h.1 a1 ((((20 : Int32) + ((3 : Int32) * x3)) + x4)).toNatClampNeg) = (-9 : Int32) then g_X7_exceptions_64 a0 a1 k4 k15 x3 x4 x2 h else (bnd (f_X7_madeBy a0 a1 x3 x4 (15 : Int32) h) (fun r6 h5 => (if (h.1 a1 ((((20 : Int32) + ((3 : Int32) * x3)) + x4)).toNatClampNeg) = r6 then g_X7_exceptions_64 a0 a1 k4 k15 x3 x4 x2 h5 else g_X7_exceptions_65 a0 a1 k4 k15 x3 x4 x2 (1 : Int32) h5)))) else none))
def f_X7_exceptions_15 (a0 : Nat) (a1 : Nat) (k4 : Int32 → Int32 → Hp → Option (Int32 × Hp)) : Nat → Int32 → Int32 → Int32 → Hp → Option (Int32 × Hp)
  | 0 => fun _ _ _ _ => none
  | n + 1 => fun x2 x3 x4 h => g_X7_exceptions_15 a0 a1 k4 (f_X7_exceptions_15 a0 a1 k4 n) x2 x3 x4 h
def g_X7_exceptions_4 (a0 : Nat) (a1 : Nat) (k4 : Int32 → Int32 → Hp → Option (Int32 × Hp)) (x2 : Int32) (x3 : Int32) (h : Hp) : Option (Int32 × Hp) := (if (h.1 a0 11) ≤ x3 then (some (x2, h)) else f_X7_exceptions_15 a0 a1 k4 FU x2 x3 (0 : Int32) h)
def f_X7_exceptions_4 (a0 : Nat) (a1 : Nat) : Nat → Int32 → Int32 → Hp → Option (Int32 × Hp)
  | 0 => fun _ _ _ => none
  | n + 1 => fun x2 x3 h => g_X7_exceptions_4 a0 a1 (f_X7_exceptions_4 a0 a1 n) x2 x3 h
def f_X7_exceptions (a0 : Nat) (a1 : Nat) (h : Hp) : Option (Int32 × Hp) := f_X7_exceptions_4 a0 a1 FU (0 : Int32) (0 : Int32) h
def g_X7_manyForms_28 (a0 : Nat) (k5 : Int32 → Int32 → Hp → Option (Int32 × Hp)) (x2 : Int32) (z0 : Int32) (z1 : Int32) (h : Hp) : Option (Int32 × Hp) := k5 (z0 + z1) (x2 + (1 : Int32)) h
def g_X7_manyForms_5 (a0 : Nat) (k5 : Int32 → Int32 → Hp → Option (Int32 × Hp)) (x1 : Int32) (x2 : Int32) (h : Hp) : Option (Int32 × Hp) := (if (32 : Int32) ≤ x2 then (some (x1, h)) else (if okI x2 (lN_ (rF a0 2)) = true then (if (h.1 (rF a0 2) (x2).toNatClampNeg) = (-9 : Int32) then g_X7_manyForms_28 a0 k5 x2 x1 (0 : Int32) h else g_X7_manyForms_28 a0 k5 x2 x1 (1 : Int32) h) else none))
def f_X7_manyForms_5 (a0 : Nat) : Nat → Int32 → Int32 → Hp → Option (Int32 × Hp)
  | 0 => fun _ _ _ => none
  | n + 1 => fun x1 x2 h => g_X7_manyForms_5 a0 (f_X7_manyForms_5 a0 n) x1 x2 h
def f_X7_manyForms (a0 : Nat) (h : Hp) : Option (Int32 × Hp) := f_X7_manyForms_5 a0 FU (0 : Int32) (20 : Int32) h
def f_X7_about (a0 : Nat) (a1 : Int32) (h : Hp) : Option (Int32 × Hp) := (if a1 = 0 then (some ((h.1 a0 11), h)) else (if a1 = 1 then (some ((h.1 a0 12), h)) else (if a1 = 2 then (some ((h.1 a0 13), h)) else (if a1 = 3 then (bnd (f_X7_unlike a0 (rF a0 2) (15 : Int32) h) (fun r7 h6 => (some (r7, h6)))) else (if a1 = 4 then (bnd (f_X7_active a0 (rF a0 2) h) (fun r11 h10 => (some (r11, h10)))) else (if a1 = 5 then (bnd (f_X7_exceptions a0 (rF a0 2) h) (fun r15 h14 => (some (r15, h14)))) else (if a1 = 6 then (bnd (f_X7_manyForms a0 h) (fun r19 h18 => (some (r19, h18)))) else (if a1 = 7 then (some ((h.1 a0 5), h)) else (if a1 = 8 then (some ((h.1 a0 26), h)) else (if a1 = 9 then (some ((h.1 a0 1), h)) else (some ((-2 : Int32), h))))))))))))
def f_X7_part (a0 : Nat) (a1 : Int32) (a2 : Int32) (h : Hp) : Option (Int32 × Hp) := (if a1 = 0 then (bnd (f_X7_isRoot a0 a2 h) (fun r10 h9 => (if r10 = 0 then (some ((-1 : Int32), h9)) else (if okI a2 (lN_ (rF a0 9)) = true then (some ((h9.1 (rF a0 9) (a2).toNatClampNeg), h9)) else none)))) else (if a1 = (1 : Int32) then (bnd (f_X7_isEnding a0 a2 h) (fun r5 h4 => (if r5 = 0 then (some ((-1 : Int32), h4)) else (if okI a2 (lN_ (rF a0 10)) = true then (some ((h4.1 (rF a0 10) (a2).toNatClampNeg), h4)) else none)))) else (some ((-2 : Int32), h))))
def f_X7_sign (a0 : Nat) (a1 : Int32) (a2 : Int32) (h : Hp) : Option (Int32 × Hp) := (bnd (f_X7_isChange a0 a1 h) (fun r3 h2 => (if r3 = 0 then (some ((-1 : Int32), h2)) else (bnd (f_X7_in ((a2).toInt64) (0 : Int64) (3 : Int64) h2) (fun r7 h6 => (if r7 = 0 then (some ((-2 : Int32), h6)) else (if okI (((4 : Int32) + ((4 : Int32) * a1)) + a2) (lN_ (rF a0 2)) = true then (some ((h6.1 (rF a0 2) ((((4 : Int32) + ((4 : Int32) * a1)) + a2)).toNatClampNeg), h6)) else none)))))))
def f_X7_order (a0 : Nat) (a1 : Int32) (h : Hp) : Option (Int32 × Hp) := (bnd (f_X7_isChange a0 a1 h) (fun r3 h2 => (if r3 = 0 then (some ((-1 : Int32), h2)) else (if okI a1 (lN_ (rF a0 2)) = true then (some ((h2.1 (rF a0 2) (a1).toNatClampNeg), h2)) else none))))
def f_X7_made (a0 : Nat) (a1 : Int32) (a2 : Int32) (h : Hp) : Option (Int32 × Hp) := (bnd (f_X7_isRoot a0 a1 h) (fun r3 h2 => (if r3 = 0 then (some ((-1 : Int32), h2)) else (bnd (f_X7_isEnding a0 a2 h2) (fun r7 h6 => (if r7 = 0 then (some ((-1 : Int32), h6)) else (bnd (f_X7_madeBy a0 (rF a0 2) a1 a2 (15 : Int32) h6) (fun r11 h10 => (some (r11, h10))))))))))
def f_X7_step (a0 : Nat) (a1 : Int32) (a2 : Int32) (a3 : Int32) (h : Hp) : Option (Int32 × Hp) := (bnd (f_X7_isRoot a0 a1 h) (fun r3 h2 => (if r3 = 0 then (some ((-1 : Int32), h2)) else (bnd (f_X7_isEnding a0 a2 h2) (fun r7 h6 => (if r7 = 0 then (some ((-1 : Int32), h6)) else (bnd (f_X7_in ((a3).toInt64) (0 : Int64) (((h6.1 a0 13)).toInt64) h6) (fun r11 h10 => (if r11 = 0 then (some ((-2 : Int32), h10)) else (bnd (f_X7_raw a0 a1 a2 h10) (fun r15 h14 => (bnd (f_X7_behindAll (rF a0 2) r15 a3 (15 : Int32) h14) (fun r18 h17 => (some (r18, h17)))))))))))))))
def g_X7_apart_108 (a0 : Nat) (a1 : Int32) (a2 : Int32) (k34 : Int32 → Int32 → Int32 → Hp → Option (Int32 × Hp)) (k47 : Int32 → Int32 → Int32 → Int32 → Hp → Option (Int32 × Hp)) (x3 : Int32) (x5 : Int32) (x6 : Int32) (z0 : Int32) (h : Hp) : Option (Int32 × Hp) := k47 x3 z0 x5 (x6 + (-1 : Int32)) h
def g_X7_apart_88 (a0 : Nat) (a1 : Int32) (a2 : Int32) (k34 : Int32 → Int32 → Int32 → Hp → Option (Int32 × Hp)) (k47 : Int32 → Int32 → Int32 → Int32 → Hp → Option (Int32 × Hp)) (x4 : Int32) (x5 : Int32) (x6 : Int32) (x7 : Int32) (z0 : Int32) (z1 : Int32) (h : Hp) : Option (Int32 × Hp) := (if x7 = 0 then g_X7_apart_108 a0 a1 a2 k34 k47 (z0 + z1) x5 x6 x4 h else g_X7_apart_108 a0 a1 a2 k34 k47 (z0 + z1) x5 x6 (((10 : Int32) * x5) + x6) h)
def g_X7_apart_75 (a0 : Nat) (a1 : Int32) (a2 : Int32) (k34 : Int32 → Int32 → Int32 → Hp → Option (Int32 × Hp)) (k47 : Int32 → Int32 → Int32 → Int32 → Hp → Option (Int32 × Hp)) (x3 : Int32) (x4 : Int32) (x5 : Int32) (x6 : Int32) (z0 : Int32) (h : Hp) : Option (Int32 × Hp) := (if z0 = 0 then g_X7_apart_88 a0 a1 a2 k34 k47 x4 x5 x6 z0 x3 (0 : Int32) h else g_X7_apart_88 a0 a1 a2 k34 k47 x4 x5 x6 z0 x3 (1 : Int32) h)
def g_X7_apart_47 (a0 : Nat) (a1 : Int32) (a2 : Int32) (k34 : Int32 → Int32 → Int32 → Hp → Option (Int32 × Hp)) (k47 : Int32 → Int32 → Int32 → Int32 → Hp → Option (Int32 × Hp)) (x3 : Int32) (x4 : Int32) (x5 : Int32) (x6 : Int32) (h : Hp) : Option (Int32 × Hp) := (if x6 < 0 then k34 x3 x4 (x5 + (-1 : Int32)) h else (bnd (f_X7_madeBy a0 (rF a0 2) x5 x6 (15 : Int32) h) (fun r6 h5 => (if r6 = a1 then g_X7_apart_75 a0 a1 a2 k34 k47 x3 x4 x5 x6 (1 : Int32) h5 else g_X7_apart_75 a0 a1 a2 k34 k47 x3 x4 x5 x6 (0 : Int32) h5))))
def f_X7_apart_47 (a0 : Nat) (a1 : Int32) (a2 : Int32) (k34 : Int32 → Int32 → Int32 → Hp → Option (Int32 × Hp)) : Nat → Int32 → Int32 → Int32 → Int32 → Hp → Option (Int32 × Hp)
  | 0 => fun _ _ _ _ _ => none
  | n + 1 => fun x3 x4 x5 x6 h => g_X7_apart_47 a0 a1 a2 k34 (f_X7_apart_47 a0 a1 a2 k34 n) x3 x4 x5 x6 h
def g_X7_apart_34 (a0 : Nat) (a1 : Int32) (a2 : Int32) (k34 : Int32 → Int32 → Int32 → Hp → Option (Int32 × Hp)) (x3 : Int32) (x4 : Int32) (x5 : Int32) (h : Hp) : Option (Int32 × Hp) := (if x5 < 0 then (if a2 = 0 then (some (x3, h)) else (some (x4, h))) else f_X7_apart_47 a0 a1 a2 k34 FU x3 x4 x5 ((h.1 a0 12) - (1 : Int32)) h)
def f_X7_apart_34 (a0 : Nat) (a1 : Int32) (a2 : Int32) : Nat → Int32 → Int32 → Int32 → Hp → Option (Int32 × Hp)
  | 0 => fun _ _ _ _ => none
  | n + 1 => fun x3 x4 x5 h => g_X7_apart_34 a0 a1 a2 (f_X7_apart_34 a0 a1 a2 n) x3 x4 x5 h
def f_X7_apart (a0 : Nat) (a1 : Int32) (a2 : Int32) (h : Hp) : Option (Int32 × Hp) := (bnd (f_X7_isWord a1 h) (fun r12 h11 => (if r12 = 0 then (some ((-2 : Int32), h11)) else (bnd (f_X7_in ((a2).toInt64) (0 : Int64) (1 : Int64) h11) (fun r16 h15 => (if r16 = 0 then (some ((-2 : Int32), h15)) else f_X7_apart_34 a0 a1 a2 FU (0 : Int32) (-9 : Int32) ((h15.1 a0 11) - (1 : Int32)) h15))))))
def f_X7_form (a0 : Nat) (a1 : Int32) (a2 : Int32) (h : Hp) : Option (Int32 × Hp) := (bnd (f_X7_isRoot a0 a1 h) (fun r3 h2 => (if r3 = 0 then (some ((-1 : Int32), h2)) else (bnd (f_X7_isEnding a0 a2 h2) (fun r7 h6 => (if r7 = 0 then (some ((-1 : Int32), h6)) else (if okI (((20 : Int32) + ((3 : Int32) * a1)) + a2) (lN_ (rF a0 2)) = true then (some ((h6.1 (rF a0 2) ((((20 : Int32) + ((3 : Int32) * a1)) + a2)).toNatClampNeg), h6)) else none)))))))
def g_X7_noteDoing_2 (a0 : Nat) (k2 : Int32 → Hp → Option Hp) (x1 : Int32) (h : Hp) : Option Hp := (if (32 : Int32) ≤ x1 then (if (14 : Int32) ≤ ((sI h a0 6 (((h.1 a0 6) + (1 : Int32)) - ((h.1 a0 6) + (1 : Int32)) / (14 : Int32) * (14 : Int32))).1 a0 5) then (some (sI (sI h a0 6 (((h.1 a0 6) + (1 : Int32)) - ((h.1 a0 6) + (1 : Int32)) / (14 : Int32) * (14 : Int32))) a0 5 (14 : Int32))) else (some (sI (sI h a0 6 (((h.1 a0 6) + (1 : Int32)) - ((h.1 a0 6) + (1 : Int32)) / (14 : Int32) * (14 : Int32))) a0 5 (((sI h a0 6 (((h.1 a0 6) + (1 : Int32)) - ((h.1 a0 6) + (1 : Int32)) / (14 : Int32) * (14 : Int32))).1 a0 5) + (1 : Int32))))) else (if okI x1 (lN_ (rF a0 2)) = true then (if okI (((32 : Int32) * (h.1 a0 6)) + x1) (lN_ (rF a0 4)) = true then k2 (x1 + (1 : Int32)) (sI h (rF a0 4) ((((32 : Int32) * (h.1 a0 6)) + x1)).toNatClampNeg (h.1 (rF a0 2) (x1).toNatClampNeg)) else none) else none))
def f_X7_noteDoing_2 (a0 : Nat) : Nat → Int32 → Hp → Option Hp
  | 0 => fun _ _ => none
  | n + 1 => fun x1 h => g_X7_noteDoing_2 a0 (f_X7_noteDoing_2 a0 n) x1 h
def f_X7_noteDoing (a0 : Nat) (h : Hp) : Option Hp := f_X7_noteDoing_2 a0 FU (0 : Int32) h
def f_X7_swapOn (a0 : Nat) (a1 : Int32) (a2 : Int32) (h : Hp) : Option Hp := (if okI a1 (lN_ a0) = true then (if okI a2 (lN_ a0) = true then (if okI a1 (lN_ a0) = true then (if okI a2 (lN_ a0) = true then (some (sI (sI h a0 (a1).toNatClampNeg (h.1 a0 (a2).toNatClampNeg)) a0 (a2).toNatClampNeg (h.1 a0 (a1).toNatClampNeg))) else none) else none) else none) else none)
def f_X7_isSign (a0 : Int32) (a1 : Int32) (h : Hp) : Option (Int32 × Hp) := (if a0 = 0 then (bnd (f_X7_in ((a1).toInt64) (1 : Int64) (5 : Int64) h) (fun r4 h3 => (if okZ r4 = true then some (r4, h3) else none))) else (if a0 = 1 then (bnd (f_X7_in ((a1).toInt64) (0 : Int64) (5 : Int64) h) (fun r9 h8 => (if okZ r9 = true then some (r9, h8) else none))) else (if a0 = 2 then (bnd (f_X7_in ((a1).toInt64) (1 : Int64) (7 : Int64) h) (fun r14 h13 => (if okZ r14 = true then some (r14, h13) else none))) else (if a0 = 3 then (bnd (f_X7_in ((a1).toInt64) (1 : Int64) (7 : Int64) h) (fun r19 h18 => (if okZ r19 = true then some (r19, h18) else none))) else (some ((0 : Int32), h))))))
def f_X7_swap (a0 : Nat) (a1 : Int32) (a2 : Int32) (h : Hp) : Option (Int32 × Hp) := (bnd (f_X7_isChange a0 a1 h) (fun r3 h2 => (if r3 = 0 then (some ((-1 : Int32), h2)) else (bnd (f_X7_isChange a0 a2 h2) (fun r7 h6 => (if r7 = 0 then (some ((-1 : Int32), h6)) else ((f_X7_noteDoing a0 h6).bind (fun h10 => ((f_X7_swapOn (rF a0 2) a1 a2 h10).bind (fun h13 => (bnd (f_X7_unlike a0 (rF a0 2) (15 : Int32) h13) (fun r17 h16 => (some (r17, h16))))))))))))))
def f_X7_resign (a0 : Nat) (a1 : Int32) (a2 : Int32) (a3 : Int32) (h : Hp) : Option (Int32 × Hp) := (bnd (f_X7_isChange a0 a1 h) (fun r3 h2 => (if r3 = 0 then (some ((-1 : Int32), h2)) else (bnd (f_X7_isSign a2 a3 h2) (fun r7 h6 => (if r7 = 0 then (some ((-2 : Int32), h6)) else ((f_X7_noteDoing a0 h6).bind (fun h10 => (if okI (((4 : Int32) + ((4 : Int32) * a1)) + a2) (lN_ (rF a0 2)) = true then (if okI (((4 : Int32) + ((4 : Int32) * a1)) + a2) (lN_ (rF a0 2)) = true then (some ((h10.1 (rF a0 2) ((((4 : Int32) + ((4 : Int32) * a1)) + a2)).toNatClampNeg), (sI h10 (rF a0 2) ((((4 : Int32) + ((4 : Int32) * a1)) + a2)).toNatClampNeg a3))) else none) else none)))))))))
def g_X7_tell_34 (a0 : Nat) (a1 : Int32) (a2 : Int32) (a3 : Int32) (h : Hp) : Option (Int32 × Hp) := ((f_X7_noteDoing a0 h).bind (fun h2 => (if okI (((20 : Int32) + ((3 : Int32) * a1)) + a2) (lN_ (rF a0 2)) = true then (bnd (f_X7_exceptions a0 (rF a0 2) (sI h2 (rF a0 2) ((((20 : Int32) + ((3 : Int32) * a1)) + a2)).toNatClampNeg a3)) (fun r7 h6 => (some (r7, h6)))) else none)))
def f_X7_tell (a0 : Nat) (a1 : Int32) (a2 : Int32) (a3 : Int32) (h : Hp) : Option (Int32 × Hp) := (bnd (f_X7_isRoot a0 a1 h) (fun r10 h9 => (if r10 = 0 then (some ((-1 : Int32), h9)) else (bnd (f_X7_isEnding a0 a2 h9) (fun r14 h13 => (if r14 = 0 then (some ((-1 : Int32), h13)) else (if a3 = (-9 : Int32) then g_X7_tell_34 a0 a1 a2 a3 h13 else (bnd (f_X7_isWord a3 h13) (fun r19 h18 => (if r19 = 0 then (some ((-2 : Int32), h18)) else g_X7_tell_34 a0 a1 a2 a3 h18))))))))))
def g_X7_undo_38 (a0 : Nat) (k38 : Int32 → Hp → Option (Int32 × Hp)) (x1 : Int32) (h : Hp) : Option (Int32 × Hp) := (if (32 : Int32) ≤ x1 then (some ((h.1 a0 5), h)) else (if okI (((32 : Int32) * (h.1 a0 6)) + x1) (lN_ (rF a0 4)) = true then (if okI x1 (lN_ (rF a0 2)) = true then k38 (x1 + (1 : Int32)) (sI h (rF a0 2) (x1).toNatClampNeg (h.1 (rF a0 4) ((((32 : Int32) * (h.1 a0 6)) + x1)).toNatClampNeg)) else none) else none))
def f_X7_undo_38 (a0 : Nat) : Nat → Int32 → Hp → Option (Int32 × Hp)
  | 0 => fun _ _ => none
  | n + 1 => fun x1 h => g_X7_undo_38 a0 (f_X7_undo_38 a0 n) x1 h
def f_X7_undo (a0 : Nat) (h : Hp) : Option (Int32 × Hp) := (if (h.1 a0 5) = 0 then (some ((-3 : Int32), h)) else f_X7_undo_38 a0 FU (0 : Int32) (sI (sI h a0 5 ((h.1 a0 5) - (1 : Int32))) a0 6 (((((sI h a0 5 ((h.1 a0 5) - (1 : Int32))).1 a0 6) + (14 : Int32)) - (1 : Int32)) - ((((sI h a0 5 ((h.1 a0 5) - (1 : Int32))).1 a0 6) + (14 : Int32)) - (1 : Int32)) / (14 : Int32) * (14 : Int32))))
def g_X7_areCrossing_85 (a0 : Nat) (a1 : Nat) (a2 : Int32) (a3 : Int32) (k6 : Int32 → Int32 → Hp → Option (Int32 × Hp)) (x5 : Int32) (z0 : Int32) (h : Hp) : Option (Int32 × Hp) := k6 z0 (x5 + (1 : Int32)) h
def g_X7_areCrossing_80 (a0 : Nat) (a1 : Nat) (a2 : Int32) (a3 : Int32) (k6 : Int32 → Int32 → Hp → Option (Int32 × Hp)) (x5 : Int32) (h : Hp) : Option (Int32 × Hp) := g_X7_areCrossing_85 a0 a1 a2 a3 k6 x5 (1 : Int32) h
def g_X7_areCrossing_6 (a0 : Nat) (a1 : Nat) (a2 : Int32) (a3 : Int32) (k6 : Int32 → Int32 → Hp → Option (Int32 × Hp)) (x4 : Int32) (x5 : Int32) (h : Hp) : Option (Int32 × Hp) := (if ((h.1 a0 11) * (h.1 a0 12)) ≤ x5 then (if okZ x4 = true then some (x4, h) else none) else (if (h.1 a0 12) = 0 then none else (if (h.1 a0 12) = 0 then none else (bnd (f_X7_raw a0 (x5 / (h.1 a0 12)) (x5 - x5 / (h.1 a0 12) * (h.1 a0 12)) h) (fun r7 h6 => (bnd (f_X7_changed a1 a2 r7 h6) (fun r10 h9 => (bnd (f_X7_changed a1 a3 r10 h9) (fun r13 h12 => (bnd (f_X7_changed a1 a3 r7 h12) (fun r16 h15 => (bnd (f_X7_changed a1 a2 r16 h15) (fun r19 h18 => (if x4 = 0 then (if r13 = r19 then g_X7_areCrossing_85 a0 a1 a2 a3 k6 x5 (0 : Int32) h18 else g_X7_areCrossing_80 a0 a1 a2 a3 k6 x5 h18) else g_X7_areCrossing_80 a0 a1 a2 a3 k6 x5 h18))))))))))))))
def f_X7_areCrossing_6 (a0 : Nat) (a1 : Nat) (a2 : Int32) (a3 : Int32) : Nat → Int32 → Int32 → Hp → Option (Int32 × Hp)
  | 0 => fun _ _ _ => none
  | n + 1 => fun x4 x5 h => g_X7_areCrossing_6 a0 a1 a2 a3 (f_X7_areCrossing_6 a0 a1 a2 a3 n) x4 x5 h
def f_X7_areCrossing (a0 : Nat) (a1 : Nat) (a2 : Int32) (a3 : Int32) (h : Hp) : Option (Int32 × Hp) := f_X7_areCrossing_6 a0 a1 a2 a3 FU (0 : Int32) (0 : Int32) h
def f_X7_cross (a0 : Nat) (a1 : Int32) (a2 : Int32) (h : Hp) : Option (Int32 × Hp) := (bnd (f_X7_isChange a0 a1 h) (fun r3 h2 => (if r3 = 0 then (some ((-1 : Int32), h2)) else (bnd (f_X7_isChange a0 a2 h2) (fun r7 h6 => (if r7 = 0 then (some ((-1 : Int32), h6)) else (bnd (f_X7_areCrossing a0 (rF a0 2) a1 a2 h6) (fun r11 h10 => (if r11 = 0 then (some ((0 : Int32), h10)) else (some ((1 : Int32), h10)))))))))))
def f_X7_changeAt (a0 : Nat) (a1 : Int32) (a2 : Int32) (h : Hp) : Option (Int32 × Hp) := (some (((a1 >>> (((2 : Int32) * (((h.1 a0 13) - (1 : Int32)) - a2)) &&& (31 : Int32))) &&& (3 : Int32)), h))
def g_X7_isOrder_4 (a0 : Nat) (a1 : Int32) (k4 : Int32 → Int32 → Hp → Option (Int32 × Hp)) (x2 : Int32) (x3 : Int32) (h : Hp) : Option (Int32 × Hp) := (if (h.1 a0 13) ≤ x3 then (if x2 = (((1 : Int32) <<< ((h.1 a0 13) &&& (31 : Int32))) - (1 : Int32)) then (some ((1 : Int32), h)) else (some ((0 : Int32), h))) else (bnd (f_X7_changeAt a0 a1 x3 h) (fun r5 h4 => k4 (x2 ||| ((1 : Int32) <<< (r5 &&& (31 : Int32)))) (x3 + (1 : Int32)) h4)))
def f_X7_isOrder_4 (a0 : Nat) (a1 : Int32) : Nat → Int32 → Int32 → Hp → Option (Int32 × Hp)
  | 0 => fun _ _ _ => none
  | n + 1 => fun x2 x3 h => g_X7_isOrder_4 a0 a1 (f_X7_isOrder_4 a0 a1 n) x2 x3 h
def f_X7_isOrder (a0 : Nat) (a1 : Int32) (h : Hp) : Option (Int32 × Hp) := f_X7_isOrder_4 a0 a1 FU (0 : Int32) (0 : Int32) h
def g_X7_figuresOf_4 (a0 : Nat) (a1 : Int32) (k4 : Int32 → Int32 → Hp → Option (Int32 × Hp)) (x2 : Int32) (x3 : Int32) (h : Hp) : Option (Int32 × Hp) := (if (h.1 a0 13) ≤ x3 then (some (x2, h)) else (bnd (f_X7_changeAt a0 a1 x3 h) (fun r4 h3 => k4 (((10 : Int32) * x2) + r4) (x3 + (1 : Int32)) h3)))
def f_X7_figuresOf_4 (a0 : Nat) (a1 : Int32) : Nat → Int32 → Int32 → Hp → Option (Int32 × Hp)
  | 0 => fun _ _ _ => none
  | n + 1 => fun x2 x3 h => g_X7_figuresOf_4 a0 a1 (f_X7_figuresOf_4 a0 a1 n) x2 x3 h
def f_X7_figuresOf (a0 : Nat) (a1 : Int32) (h : Hp) : Option (Int32 × Hp) := f_X7_figuresOf_4 a0 a1 FU (0 : Int32) (0 : Int32) h
def g_X7_layTrial_2 (a0 : Nat) (k2 : Int32 → Hp → Option Hp) (x1 : Int32) (h : Hp) : Option Hp := (if (32 : Int32) ≤ x1 then (some h) else (if okI x1 (lN_ (rF a0 2)) = true then (if okI x1 (lN_ (rF a0 3)) = true then k2 (x1 + (1 : Int32)) (sI h (rF a0 3) (x1).toNatClampNeg (h.1 (rF a0 2) (x1).toNatClampNeg)) else none) else none))
def f_X7_layTrial_2 (a0 : Nat) : Nat → Int32 → Hp → Option Hp
  | 0 => fun _ _ => none
  | n + 1 => fun x1 h => g_X7_layTrial_2 a0 (f_X7_layTrial_2 a0 n) x1 h
def f_X7_layTrial (a0 : Nat) (h : Hp) : Option Hp := f_X7_layTrial_2 a0 FU (0 : Int32) h
def g_X7_best_168 (a0 : Nat) (a1 : Int32) (k30 : Int32 → Int32 → Int32 → Int32 → Hp → Option (Int32 × Hp)) (x2 : Int32) (x3 : Int32) (x4 : Int32) (x5 : Int32) (h : Hp) : Option (Int32 × Hp) := k30 x2 x3 x4 (x5 + (1 : Int32)) h
def g_X7_best_167 (a0 : Nat) (a1 : Int32) (k30 : Int32 → Int32 → Int32 → Int32 → Hp → Option (Int32 × Hp)) (x3 : Int32) (x4 : Int32) (x5 : Int32) (z0 : Int32) (h : Hp) : Option (Int32 × Hp) := g_X7_best_168 a0 a1 k30 z0 x3 x4 x5 h
def g_X7_best_154 (a0 : Nat) (a1 : Int32) (k30 : Int32 → Int32 → Int32 → Int32 → Hp → Option (Int32 × Hp)) (x2 : Int32) (x3 : Int32) (x5 : Int32) (x6 : Int32) (x7 : Int32) (z0 : Int32) (h : Hp) : Option (Int32 × Hp) := (if x7 = 0 then g_X7_best_167 a0 a1 k30 x3 z0 x5 x2 h else g_X7_best_167 a0 a1 k30 x3 z0 x5 x6 h)
def g_X7_best_129 (a0 : Nat) (a1 : Int32) (k30 : Int32 → Int32 → Int32 → Int32 → Hp → Option (Int32 × Hp)) (x2 : Int32) (x4 : Int32) (x5 : Int32) (x6 : Int32) (x7 : Int32) (z0 : Int32) (h : Hp) : Option (Int32 × Hp) := (if x7 = 0 then (if x6 = x2 then g_X7_best_154 a0 a1 k30 x2 z0 x5 x6 x7 (x4 + (1 : Int32)) h else g_X7_best_154 a0 a1 k30 x2 z0 x5 x6 x7 x4 h) else g_X7_best_154 a0 a1 k30 x2 z0 x5 x6 x7 (1 : Int32) h)
def g_X7_best_112 (a0 : Nat) (a1 : Int32) (k30 : Int32 → Int32 → Int32 → Int32 → Hp → Option (Int32 × Hp)) (x2 : Int32) (x3 : Int32) (x4 : Int32) (x5 : Int32) (x6 : Int32) (z0 : Int32) (h : Hp) : Option (Int32 × Hp) := (if z0 = 0 then g_X7_best_129 a0 a1 k30 x2 x4 x5 x6 z0 x3 h else (bnd (f_X7_figuresOf a0 x5 h) (fun r7 h6 => g_X7_best_129 a0 a1 k30 x2 x4 x5 x6 z0 r7 h6)))
def g_X7_best_107 (a0 : Nat) (a1 : Int32) (k30 : Int32 → Int32 → Int32 → Int32 → Hp → Option (Int32 × Hp)) (x2 : Int32) (x3 : Int32) (x4 : Int32) (x5 : Int32) (x6 : Int32) (h : Hp) : Option (Int32 × Hp) := g_X7_best_112 a0 a1 k30 x2 x3 x4 x5 x6 (1 : Int32) h
def g_X7_best_55 (a0 : Nat) (a1 : Int32) (k30 : Int32 → Int32 → Int32 → Int32 → Hp → Option (Int32 × Hp)) (k55 : Int32 → Int32 → Int32 → Int32 → Int32 → Hp → Option (Int32 × Hp)) (x2 : Int32) (x3 : Int32) (x4 : Int32) (x5 : Int32) (x6 : Int32) (h : Hp) : Option (Int32 × Hp) := (if (h.1 a0 13) ≤ x6 then (bnd (f_X7_exceptions a0 (rF a0 3) h) (fun r11 h10 => (if x2 = (-9 : Int32) then g_X7_best_107 a0 a1 k30 x2 x3 x4 x5 r11 h10 else (if x2 ≤ r11 then g_X7_best_112 a0 a1 k30 x2 x3 x4 x5 r11 (0 : Int32) h10 else g_X7_best_107 a0 a1 k30 x2 x3 x4 x5 r11 h10)))) else (bnd (f_X7_changeAt a0 x5 x6 h) (fun r16 h15 => (if okI x6 (lN_ (rF a0 3)) = true then k55 x2 x3 x4 x5 (x6 + (1 : Int32)) (sI h15 (rF a0 3) (x6).toNatClampNeg r16) else none))))
def f_X7_best_55 (a0 : Nat) (a1 : Int32) (k30 : Int32 → Int32 → Int32 → Int32 → Hp → Option (Int32 × Hp)) : Nat → Int32 → Int32 → Int32 → Int32 → Int32 → Hp → Option (Int32 × Hp)
  | 0 => fun _ _ _ _ _ _ => none
  | n + 1 => fun x2 x3 x4 x5 x6 h => g_X7_best_55 a0 a1 k30 (f_X7_best_55 a0 a1 k30 n) x2 x3 x4 x5 x6 h
def g_X7_best_30 (a0 : Nat) (a1 : Int32) (k30 : Int32 → Int32 → Int32 → Int32 → Hp → Option (Int32 × Hp)) (x2 : Int32) (x3 : Int32) (x4 : Int32) (x5 : Int32) (h : Hp) : Option (Int32 × Hp) := (if ((1 : Int32) <<< (((2 : Int32) * (h.1 a0 13)) &&& (31 : Int32))) ≤ x5 then (if a1 = 0 then (some (x2, h)) else (if a1 = (1 : Int32) then (some (x3, h)) else (some (x4, h)))) else (bnd (f_X7_isOrder a0 x5 h) (fun r23 h22 => (if r23 = 0 then g_X7_best_168 a0 a1 k30 x2 x3 x4 x5 h22 else f_X7_best_55 a0 a1 k30 FU x2 x3 x4 x5 (0 : Int32) h22))))
def f_X7_best_30 (a0 : Nat) (a1 : Int32) : Nat → Int32 → Int32 → Int32 → Int32 → Hp → Option (Int32 × Hp)
  | 0 => fun _ _ _ _ _ => none
  | n + 1 => fun x2 x3 x4 x5 h => g_X7_best_30 a0 a1 (f_X7_best_30 a0 a1 n) x2 x3 x4 x5 h
def f_X7_best (a0 : Nat) (a1 : Int32) (h : Hp) : Option (Int32 × Hp) := (bnd (f_X7_in ((a1).toInt64) (0 : Int64) (2 : Int64) h) (fun r27 h26 => (if r27 = 0 then (some ((-2 : Int32), h26)) else ((f_X7_layTrial a0 h26).bind (fun h30 => f_X7_best_30 a0 a1 FU (-9 : Int32) (0 : Int32) (0 : Int32) (0 : Int32) h30)))))
def f_X7_judged (a0 : Nat) (a1 : Int32) (a2 : Int32) (a3 : Int32) (a4 : Int32) (h : Hp) : Option (Int32 × Hp) := (if a1 = 1 then (if a2 = 0 then (bnd (f_X7_isChange a0 a3 h) (fun r5 h4 => (if r5 = 0 then (some ((0 : Int32), h4)) else (bnd (f_X7_isChange a0 a4 h4) (fun r9 h8 => (if r9 = 0 then (some ((0 : Int32), h8)) else ((f_X7_swapOn (rF a0 3) a3 a4 h8).bind (fun h12 => (some ((1 : Int32), h12)))))))))) else (some ((0 : Int32), h))) else (if a1 = 2 then (bnd (f_X7_isChange a0 a2 h) (fun r17 h16 => (if r17 = 0 then (some ((0 : Int32), h16)) else (bnd (f_X7_isSign a3 a4 h16) (fun r21 h20 => (if r21 = 0 then (some ((0 : Int32), h20)) else (if okI (((4 : Int32) + ((4 : Int32) * a2)) + a3) (lN_ (rF a0 3)) = true then (some ((1 : Int32), (sI h20 (rF a0 3) ((((4 : Int32) + ((4 : Int32) * a2)) + a3)).toNatClampNeg a4))) else none))))))) else (if a1 = 3 then (bnd (f_X7_isRoot a0 a2 h) (fun r27 h26 => (if r27 = 0 then (some ((0 : Int32), h26)) else (bnd (f_X7_isEnding a0 a3 h26) (fun r31 h30 => (if r31 = 0 then (some ((0 : Int32), h30)) else (bnd (f_X7_madeBy a0 (rF a0 3) a2 a3 (15 : Int32) h30) (fun r35 h34 => (bnd (f_X7_size r35 h34) (fun r38 h37 => (if r38 = a4 then (some ((1 : Int32), h37)) else (some ((0 : Int32), h37))))))))))))) else (if a1 = 4 then (if a2 = 0 then (bnd (f_X7_isChange a0 a3 h) (fun r44 h43 => (if r44 = 0 then (some ((0 : Int32), h43)) else (bnd (f_X7_isChange a0 a4 h43) (fun r48 h47 => (if r48 = 0 then (some ((0 : Int32), h47)) else (bnd (f_X7_areCrossing a0 (rF a0 3) a3 a4 h47) (fun r52 h51 => (if r52 = 0 then (some ((0 : Int32), h51)) else (some ((1 : Int32), h51))))))))))) else (some ((0 : Int32), h))) else (if a1 = 5 then (bnd (f_X7_isChange a0 a2 h) (fun r57 h56 => (if r57 = 0 then (some ((0 : Int32), h56)) else (if a3 = 0 then (if a4 = 0 then (bnd (f_X7_active a0 (rF a0 3) h56) (fun r63 h62 => (bnd (f_X7_has r63 a2 h62) (fun r66 h65 => (if r66 = 0 then (some ((0 : Int32), h65)) else (some ((1 : Int32), h65))))))) else (some ((0 : Int32), h56))) else (some ((0 : Int32), h56)))))) else (if a1 = 6 then (if a2 = 0 then (if a3 = 0 then (bnd (f_X7_exceptions a0 (rF a0 3) h) (fun r73 h72 => (if a4 < r73 then (some ((0 : Int32), h72)) else (some ((1 : Int32), h72))))) else (some ((0 : Int32), h))) else (some ((0 : Int32), h))) else (some ((0 : Int32), h))))))))
def g_X7_tenThousands_4 (a0 : Int32) (k4 : Int64 → Int32 → Hp → Option (Int64 × Hp)) (x1 : Int64) (x3 : Int32) (h : Hp) : Option (Int64 × Hp) := (if a0 ≤ x3 then (some (x1, h)) else k4 (x1 * (10000 : Int64)) (x3 + (1 : Int32)) h)
def f_X7_tenThousands_4 (a0 : Int32) : Nat → Int64 → Int32 → Hp → Option (Int64 × Hp)
  | 0 => fun _ _ _ => none
  | n + 1 => fun x1 x3 h => g_X7_tenThousands_4 a0 (f_X7_tenThousands_4 a0 n) x1 x3 h
def f_X7_tenThousands (a0 : Int32) (h : Hp) : Option (Int64 × Hp) := f_X7_tenThousands_4 a0 FU (1 : Int64) (0 : Int32) h
def g_X7_judge_36 (a0 : Nat) (a1 : Int32) (a2 : Int64) (k36 : Int32 → Hp → Option (Int32 × Hp)) (x4 : Int32) (h : Hp) : Option (Int32 × Hp) := (if a1 ≤ x4 then (some ((-9 : Int32), h)) else (bnd (f_X7_tenThousands ((a1 - (1 : Int32)) - x4) h) (fun r4 h3 => (if r4 = 0 then none else (bnd (f_X7_judged a0 (((((a2 / r4) - (a2 / r4) / (10000 : Int64) * (10000 : Int64))).toInt32) / (1000 : Int32)) ((((((a2 / r4) - (a2 / r4) / (10000 : Int64) * (10000 : Int64))).toInt32) / (100 : Int32)) - (((((a2 / r4) - (a2 / r4) / (10000 : Int64) * (10000 : Int64))).toInt32) / (100 : Int32)) / (10 : Int32) * (10 : Int32)) ((((((a2 / r4) - (a2 / r4) / (10000 : Int64) * (10000 : Int64))).toInt32) / (10 : Int32)) - (((((a2 / r4) - (a2 / r4) / (10000 : Int64) * (10000 : Int64))).toInt32) / (10 : Int32)) / (10 : Int32) * (10 : Int32)) (((((a2 / r4) - (a2 / r4) / (10000 : Int64) * (10000 : Int64))).toInt32) - ((((a2 / r4) - (a2 / r4) / (10000 : Int64) * (10000 : Int64))).toInt32) / (10 : Int32) * (10 : Int32)) h3) (fun r8 h7 => (if r8 = 0 then (some (x4, h7)) else k36 (x4 + (1 : Int32)) h7)))))))
def f_X7_judge_36 (a0 : Nat) (a1 : Int32) (a2 : Int64) : Nat → Int32 → Hp → Option (Int32 × Hp)
  | 0 => fun _ _ => none
  | n + 1 => fun x4 h => g_X7_judge_36 a0 a1 a2 (f_X7_judge_36 a0 a1 a2 n) x4 h
def f_X7_judge (a0 : Nat) (a1 : Int32) (a2 : Int64) (h : Hp) : Option (Int32 × Hp) := (bnd (f_X7_in ((a1).toInt64) (1 : Int64) (4 : Int64) h) (fun r12 h11 => (if r12 = 0 then (some ((-2 : Int32), h11)) else (bnd (f_X7_tenThousands a1 h11) (fun r16 h15 => (bnd (f_X7_in a2 (0 : Int64) (r16 - (1 : Int64)) h15) (fun r19 h18 => (if r19 = 0 then (some ((-2 : Int32), h18)) else ((f_X7_layTrial a0 h18).bind (fun h22 => f_X7_judge_36 a0 a1 a2 FU (0 : Int32) h22))))))))))
def g_X7_share_131 (a0 : Nat) (a1 : Int32) (a2 : Int32) (k48 : Int32 → Int32 → Hp → Option (Int32 × Hp)) (x3 : Int32) (x4 : Int32) (h : Hp) : Option (Int32 × Hp) := k48 x3 (x4 + (1 : Int32)) h
def g_X7_share_76 (a0 : Nat) (a1 : Int32) (a2 : Int32) (k48 : Int32 → Int32 → Hp → Option (Int32 × Hp)) (k76 : Int32 → Int32 → Int32 → Int32 → Hp → Option (Int32 × Hp)) (x3 : Int32) (x4 : Int32) (x5 : Int32) (x6 : Int32) (h : Hp) : Option (Int32 × Hp) := (bnd (f_X7_changeAt a0 x4 x6 h) (fun r3 h2 => (if r3 = a1 then (if okI (x5 ||| ((1 : Int32) <<< (a1 &&& (31 : Int32)))) (lN_ (rF a0 29)) = true then (if okI x5 (lN_ (rF a0 29)) = true then g_X7_share_131 a0 a1 a2 k48 (x3 + ((h2.1 (rF a0 29) ((x5 ||| ((1 : Int32) <<< (a1 &&& (31 : Int32))))).toNatClampNeg) - (h2.1 (rF a0 29) (x5).toNatClampNeg))) x4 h2 else none) else none) else (bnd (f_X7_changeAt a0 x4 x6 h2) (fun r9 h8 => k76 x3 x4 (x5 ||| ((1 : Int32) <<< (r9 &&& (31 : Int32)))) (x6 + (1 : Int32)) h8)))))
def f_X7_share_76 (a0 : Nat) (a1 : Int32) (a2 : Int32) (k48 : Int32 → Int32 → Hp → Option (Int32 × Hp)) : Nat → Int32 → Int32 → Int32 → Int32 → Hp → Option (Int32 × Hp)
  | 0 => fun _ _ _ _ _ => none
  | n + 1 => fun x3 x4 x5 x6 h => g_X7_share_76 a0 a1 a2 k48 (f_X7_share_76 a0 a1 a2 k48 n) x3 x4 x5 x6 h
def g_X7_share_48 (a0 : Nat) (a1 : Int32) (a2 : Int32) (k48 : Int32 → Int32 → Hp → Option (Int32 × Hp)) (x3 : Int32) (x4 : Int32) (h : Hp) : Option (Int32 × Hp) := (if ((1 : Int32) <<< (((2 : Int32) * (h.1 a0 13)) &&& (31 : Int32))) ≤ x4 then (bnd (f_X7_factorial (h.1 a0 13) h) (fun r13 h12 => (bnd (f_X7_fraction x3 r13 a2 h12) (fun r16 h15 => (some (r16, h15)))))) else (bnd (f_X7_isOrder a0 x4 h) (fun r19 h18 => (if r19 = 0 then g_X7_share_131 a0 a1 a2 k48 x3 x4 h18 else f_X7_share_76 a0 a1 a2 k48 FU x3 x4 (0 : Int32) (0 : Int32) h18))))
def f_X7_share_48 (a0 : Nat) (a1 : Int32) (a2 : Int32) : Nat → Int32 → Int32 → Hp → Option (Int32 × Hp)
  | 0 => fun _ _ _ => none
  | n + 1 => fun x3 x4 h => g_X7_share_48 a0 a1 a2 (f_X7_share_48 a0 a1 a2 n) x3 x4 h
def g_X7_share_12 (a0 : Nat) (a1 : Int32) (a2 : Int32) (k12 : Int32 → Hp → Option (Int32 × Hp)) (x3 : Int32) (h : Hp) : Option (Int32 × Hp) := (if ((1 : Int32) <<< ((h.1 a0 13) &&& (31 : Int32))) ≤ x3 then f_X7_share_48 a0 a1 a2 FU (0 : Int32) (0 : Int32) h else (bnd (f_X7_unlike a0 (rF a0 2) x3 h) (fun r24 h23 => (if okI x3 (lN_ (rF a0 29)) = true then k12 (x3 + (1 : Int32)) (sI h23 (rF a0 29) (x3).toNatClampNeg r24) else none))))
def f_X7_share_12 (a0 : Nat) (a1 : Int32) (a2 : Int32) : Nat → Int32 → Hp → Option (Int32 × Hp)
  | 0 => fun _ _ => none
  | n + 1 => fun x3 h => g_X7_share_12 a0 a1 a2 (f_X7_share_12 a0 a1 a2 n) x3 h
def f_X7_share (a0 : Nat) (a1 : Int32) (a2 : Int32) (h : Hp) : Option (Int32 × Hp) := (bnd (f_X7_isChange a0 a1 h) (fun r28 h27 => (if r28 = 0 then (some ((-1 : Int32), h27)) else f_X7_share_12 a0 a1 a2 FU (0 : Int32) h27)))
def f_X7_see (a0 : Nat) (a1 : Int32) (a2 : Int32) (a3 : Int32) (a4 : Int32) (h : Hp) : Option (Int32 × Hp) := (bnd (f_X7_isEnding a0 a1 h) (fun r3 h2 => (if r3 = 0 then (some ((-1 : Int32), h2)) else (bnd (f_X7_in ((a2).toInt64) (0 : Int64) (4 : Int64) h2) (fun r7 h6 => (if r7 = 0 then (some ((-2 : Int32), h6)) else (bnd (f_X7_in ((a3).toInt64) (1 : Int64) (5 : Int64) h6) (fun r11 h10 => (if r11 = 0 then (some ((-2 : Int32), h10)) else (bnd (f_X7_in ((a4).toInt64) (0 : Int64) (1 : Int64) h10) (fun r15 h14 => (if r15 = 0 then (some ((-2 : Int32), h14)) else (if (h14.1 a0 26) = (6 : Int32) then (some ((-4 : Int32), h14)) else (if okI (h14.1 a0 26) (lN_ (rF a0 22)) = true then (if okI ((sI h14 (rF a0 22) ((h14.1 a0 26)).toNatClampNeg a1).1 a0 26) (lN_ (rF a0 23)) = true then (if okI ((sI (sI h14 (rF a0 22) ((h14.1 a0 26)).toNatClampNeg a1) (rF a0 23) (((sI h14 (rF a0 22) ((h14.1 a0 26)).toNatClampNeg a1).1 a0 26)).toNatClampNeg a2).1 a0 26) (lN_ (rF a0 24)) = true then (if okI ((sI (sI (sI h14 (rF a0 22) ((h14.1 a0 26)).toNatClampNeg a1) (rF a0 23) (((sI h14 (rF a0 22) ((h14.1 a0 26)).toNatClampNeg a1).1 a0 26)).toNatClampNeg a2) (rF a0 24) (((sI (sI h14 (rF a0 22) ((h14.1 a0 26)).toNatClampNeg a1) (rF a0 23) (((sI h14 (rF a0 22) ((h14.1 a0 26)).toNatClampNeg a1).1 a0 26)).toNatClampNeg a2).1 a0 26)).toNatClampNeg a3).1 a0 26) (lN_ (rF a0 25)) = true then (some (((sI (sI (sI (sI (sI h14 (rF a0 22) ((h14.1 a0 26)).toNatClampNeg a1) (rF a0 23) (((sI h14 (rF a0 22) ((h14.1 a0 26)).toNatClampNeg a1).1 a0 26)).toNatClampNeg a2) (rF a0 24) (((sI (sI h14 (rF a0 22) ((h14.1 a0 26)).toNatClampNeg a1) (rF a0 23) (((sI h14 (rF a0 22) ((h14.1 a0 26)).toNatClampNeg a1).1 a0 26)).toNatClampNeg a2).1 a0 26)).toNatClampNeg a3) (rF a0 25) (((sI (sI (sI h14 (rF a0 22) ((h14.1 a0 26)).toNatClampNeg a1) (rF a0 23) (((sI h14 (rF a0 22) ((h14.1 a0 26)).toNatClampNeg a1).1 a0 26)).toNatClampNeg a2) (rF a0 24) (((sI (sI h14 (rF a0 22) ((h14.1 a0 26)).toNatClampNeg a1) (rF a0 23) (((sI h14 (rF a0 22) ((h14.1 a0 26)).toNatClampNeg a1).1 a0 26)).toNatClampNeg a2).1 a0 26)).toNatClampNeg a3).1 a0 26)).toNatClampNeg a4) a0 26 (((sI (sI (sI (sI h14 (rF a0 22) ((h14.1 a0 26)).toNatClampNeg a1) (rF a0 23) (((sI h14 (rF a0 22) ((h14.1 a0 26)).toNatClampNeg a1).1 a0 26)).toNatClampNeg a2) (rF a0 24) (((sI (sI h14 (rF a0 22) ((h14.1 a0 26)).toNatClampNeg a1) (rF a0 23) (((sI h14 (rF a0 22) ((h14.1 a0 26)).toNatClampNeg a1).1 a0 26)).toNatClampNeg a2).1 a0 26)).toNatClampNeg a3) (rF a0 25) (((sI (sI (sI h14 (rF a0 22) ((h14.1 a0 26)).toNatClampNeg a1) (rF a0 23) (((sI h14 (rF a0 22) ((h14.1 a0 26)).toNatClampNeg a1).1 a0 26)).toNatClampNeg a2) (rF a0 24) (((sI (sI h14 (rF a0 22) ((h14.1 a0 26)).toNatClampNeg a1) (rF a0 23) (((sI h14 (rF a0 22) ((h14.1 a0 26)).toNatClampNeg a1).1 a0 26)).toNatClampNeg a2).1 a0 26)).toNatClampNeg a3).1 a0 26)).toNatClampNeg a4).1 a0 26) + (1 : Int32))).1 a0 26), (sI (sI (sI (sI (sI h14 (rF a0 22) ((h14.1 a0 26)).toNatClampNeg a1) (rF a0 23) (((sI h14 (rF a0 22) ((h14.1 a0 26)).toNatClampNeg a1).1 a0 26)).toNatClampNeg a2) (rF a0 24) (((sI (sI h14 (rF a0 22) ((h14.1 a0 26)).toNatClampNeg a1) (rF a0 23) (((sI h14 (rF a0 22) ((h14.1 a0 26)).toNatClampNeg a1).1 a0 26)).toNatClampNeg a2).1 a0 26)).toNatClampNeg a3) (rF a0 25) (((sI (sI (sI h14 (rF a0 22) ((h14.1 a0 26)).toNatClampNeg a1) (rF a0 23) (((sI h14 (rF a0 22) ((h14.1 a0 26)).toNatClampNeg a1).1 a0 26)).toNatClampNeg a2) (rF a0 24) (((sI (sI h14 (rF a0 22) ((h14.1 a0 26)).toNatClampNeg a1) (rF a0 23) (((sI h14 (rF a0 22) ((h14.1 a0 26)).toNatClampNeg a1).1 a0 26)).toNatClampNeg a2).1 a0 26)).toNatClampNeg a3).1 a0 26)).toNatClampNeg a4) a0 26 (((sI (sI (sI (sI h14 (rF a0 22) ((h14.1 a0 26)).toNatClampNeg a1) (rF a0 23) (((sI h14 (rF a0 22) ((h14.1 a0 26)).toNatClampNeg a1).1 a0 26)).toNatClampNeg a2) (rF a0 24) (((sI (sI h14 (rF a0 22) ((h14.1 a0 26)).toNatClampNeg a1) (rF a0 23) (((sI h14 (rF a0 22) ((h14.1 a0 26)).toNatClampNeg a1).1 a0 26)).toNatClampNeg a2).1 a0 26)).toNatClampNeg a3) (rF a0 25) (((sI (sI (sI h14 (rF a0 22) ((h14.1 a0 26)).toNatClampNeg a1) (rF a0 23) (((sI h14 (rF a0 22) ((h14.1 a0 26)).toNatClampNeg a1).1 a0 26)).toNatClampNeg a2) (rF a0 24) (((sI (sI h14 (rF a0 22) ((h14.1 a0 26)).toNatClampNeg a1) (rF a0 23) (((sI h14 (rF a0 22) ((h14.1 a0 26)).toNatClampNeg a1).1 a0 26)).toNatClampNeg a2).1 a0 26)).toNatClampNeg a3).1 a0 26)).toNatClampNeg a4).1 a0 26) + (1 : Int32))))) else none) else none) else none) else none))))))))))))))
def f_X7_unsee (a0 : Nat) (h : Hp) : Option (Int32 × Hp) := (some ((h.1 a0 26), (sI h a0 26 (0 : Int32))))
def g_X7_agrees_115 (a0 : Nat) (a1 : Int32) (k4 : Int32 → Int32 → Hp → Option (Int32 × Hp)) (x3 : Int32) (z0 : Int32) (h : Hp) : Option (Int32 × Hp) := k4 z0 (x3 + (1 : Int32)) h
def g_X7_agrees_114 (a0 : Nat) (a1 : Int32) (k4 : Int32 → Int32 → Hp → Option (Int32 × Hp)) (x3 : Int32) (h : Hp) : Option (Int32 × Hp) := g_X7_agrees_115 a0 a1 k4 x3 (0 : Int32) h
def g_X7_agrees_107 (a0 : Nat) (a1 : Int32) (k4 : Int32 → Int32 → Hp → Option (Int32 × Hp)) (x3 : Int32) (z0 : Int32) (z1 : Int32) (h : Hp) : Option (Int32 × Hp) := (if z0 = z1 then g_X7_agrees_115 a0 a1 k4 x3 (1 : Int32) h else g_X7_agrees_114 a0 a1 k4 x3 h)
def g_X7_agrees_84 (a0 : Nat) (a1 : Int32) (k4 : Int32 → Int32 → Hp → Option (Int32 × Hp)) (x2 : Int32) (x3 : Int32) (z0 : Int32) (h : Hp) : Option (Int32 × Hp) := (if x2 = 0 then g_X7_agrees_114 a0 a1 k4 x3 h else (if okI x3 (lN_ (rF a0 25)) = true then (if (h.1 (rF a0 25) (x3).toNatClampNeg) = (1 : Int32) then g_X7_agrees_107 a0 a1 k4 x3 z0 (1 : Int32) h else g_X7_agrees_107 a0 a1 k4 x3 z0 (0 : Int32) h) else none))
def g_X7_agrees_57 (a0 : Nat) (a1 : Int32) (k4 : Int32 → Int32 → Hp → Option (Int32 × Hp)) (x2 : Int32) (x3 : Int32) (z0 : Int32) (h : Hp) : Option (Int32 × Hp) := (if okI x3 (lN_ (rF a0 23)) = true then (bnd (f_X7_letterAt z0 (h.1 (rF a0 23) (x3).toNatClampNeg) h) (fun r8 h7 => (if okI x3 (lN_ (rF a0 24)) = true then (if r8 = (h7.1 (rF a0 24) (x3).toNatClampNeg) then g_X7_agrees_84 a0 a1 k4 x2 x3 (1 : Int32) h7 else g_X7_agrees_84 a0 a1 k4 x2 x3 (0 : Int32) h7) else none))) else none)
def g_X7_agrees_4 (a0 : Nat) (a1 : Int32) (k4 : Int32 → Int32 → Hp → Option (Int32 × Hp)) (x2 : Int32) (x3 : Int32) (h : Hp) : Option (Int32 × Hp) := (if (h.1 a0 26) ≤ x3 then (if okZ x2 = true then some (x2, h) else none) else (if okI x3 (lN_ (rF a0 22)) = true then (bnd (f_X7_isEnding a0 (h.1 (rF a0 22) (x3).toNatClampNeg) h) (fun r16 h15 => (if r16 = 0 then g_X7_agrees_57 a0 a1 k4 x2 x3 (0 : Int32) h15 else (if okI (h.1 (rF a0 22) (x3).toNatClampNeg) (lN_ (rF a0 10)) = true then (bnd (f_X7_join a1 (h15.1 (rF a0 10) ((h.1 (rF a0 22) (x3).toNatClampNeg)).toNatClampNeg) h15) (fun r21 h20 => (bnd (f_X7_behindAll (rF a0 2) r21 (h20.1 a0 13) (15 : Int32) h20) (fun r24 h23 => g_X7_agrees_57 a0 a1 k4 x2 x3 r24 h23)))) else none)))) else none))
def f_X7_agrees_4 (a0 : Nat) (a1 : Int32) : Nat → Int32 → Int32 → Hp → Option (Int32 × Hp)
  | 0 => fun _ _ _ => none
  | n + 1 => fun x2 x3 h => g_X7_agrees_4 a0 a1 (f_X7_agrees_4 a0 a1 n) x2 x3 h
def f_X7_agrees (a0 : Nat) (a1 : Int32) (h : Hp) : Option (Int32 × Hp) := f_X7_agrees_4 a0 a1 FU (1 : Int32) (0 : Int32) h
def g_X7_which_73 (a0 : Nat) (a1 : Int32) (k22 : Int32 → Int32 → Int32 → Hp → Option (Int32 × Hp)) (x2 : Int32) (x3 : Int32) (x4 : Int32) (h : Hp) : Option (Int32 × Hp) := k22 x2 x3 (x4 + (-1 : Int32)) h
def g_X7_which_22 (a0 : Nat) (a1 : Int32) (k22 : Int32 → Int32 → Int32 → Hp → Option (Int32 × Hp)) (x2 : Int32) (x3 : Int32) (x4 : Int32) (h : Hp) : Option (Int32 × Hp) := (if x4 < 0 then (if a1 = 0 then (some (x2, h)) else (some (x3, h))) else (bnd (f_X7_agrees a0 (((((100 : Int32) * ((x4 / (25 : Int32)) + (1 : Int32))) + ((10 : Int32) * (((x4 / (5 : Int32)) - (x4 / (5 : Int32)) / (5 : Int32) * (5 : Int32)) + (1 : Int32)))) + (x4 - x4 / (5 : Int32) * (5 : Int32))) + (1 : Int32)) h) (fun r5 h4 => (if r5 = 0 then g_X7_which_73 a0 a1 k22 x2 x3 x4 h4 else g_X7_which_73 a0 a1 k22 (x2 + (1 : Int32)) (((((100 : Int32) * ((x4 / (25 : Int32)) + (1 : Int32))) + ((10 : Int32) * (((x4 / (5 : Int32)) - (x4 / (5 : Int32)) / (5 : Int32) * (5 : Int32)) + (1 : Int32)))) + (x4 - x4 / (5 : Int32) * (5 : Int32))) + (1 : Int32)) x4 h4))))
def f_X7_which_22 (a0 : Nat) (a1 : Int32) : Nat → Int32 → Int32 → Int32 → Hp → Option (Int32 × Hp)
  | 0 => fun _ _ _ _ => none
  | n + 1 => fun x2 x3 x4 h => g_X7_which_22 a0 a1 (f_X7_which_22 a0 a1 n) x2 x3 x4 h
def f_X7_which (a0 : Nat) (a1 : Int32) (h : Hp) : Option (Int32 × Hp) := (bnd (f_X7_in ((a1).toInt64) (0 : Int64) (1 : Int64) h) (fun r9 h8 => (if r9 = 0 then (some ((-2 : Int32), h8)) else f_X7_which_22 a0 a1 FU (0 : Int32) (-9 : Int32) (124 : Int32) h8)))
def g_X7_fails_127 (a0 : Nat) (a1 : Int32) (a2 : Int32) (a3 : Int32) (a4 : Int32) (k53 : Int32 → Int32 → Int32 → Hp → Option (Int32 × Hp)) (x5 : Int32) (x7 : Int32) (z0 : Int32) (z1 : Int32) (h : Hp) : Option (Int32 × Hp) := k53 x5 (z0 + z1) (x7 + (1 : Int32)) h
def g_X7_fails_93 (a0 : Nat) (a1 : Int32) (a2 : Int32) (a3 : Int32) (a4 : Int32) (k53 : Int32 → Int32 → Int32 → Hp → Option (Int32 × Hp)) (x5 : Int32) (x6 : Int32) (x7 : Int32) (x8 : Int32) (z0 : Int32) (h : Hp) : Option (Int32 × Hp) := (if z0 = 0 then g_X7_fails_127 a0 a1 a2 a3 a4 k53 x5 x7 x6 (0 : Int32) h else (bnd (f_X7_power ((10 : Int32) - a3) x8 h) (fun r4 h3 => (bnd (f_X7_power a3 ((h3.1 a0 13) - x8) h3) (fun r7 h6 => g_X7_fails_127 a0 a1 a2 a3 a4 k53 x5 x7 x6 (r4 * r7) h6)))))
def g_X7_fails_53 (a0 : Nat) (a1 : Int32) (a2 : Int32) (a3 : Int32) (a4 : Int32) (k53 : Int32 → Int32 → Int32 → Hp → Option (Int32 × Hp)) (x5 : Int32) (x6 : Int32) (x7 : Int32) (h : Hp) : Option (Int32 × Hp) := (if ((1 : Int32) <<< ((h.1 a0 13) &&& (31 : Int32))) ≤ x7 then (bnd (f_X7_power (10 : Int32) (h.1 a0 13) h) (fun r11 h10 => (bnd (f_X7_fraction x6 r11 a4 h10) (fun r14 h13 => (some (r14, h13)))))) else (bnd (f_X7_ones x7 h) (fun r17 h16 => (bnd (f_X7_madeBy a0 (rF a0 2) a1 a2 x7 h16) (fun r20 h19 => (if r20 = x5 then g_X7_fails_93 a0 a1 a2 a3 a4 k53 x5 x6 x7 r17 (1 : Int32) h19 else g_X7_fails_93 a0 a1 a2 a3 a4 k53 x5 x6 x7 r17 (0 : Int32) h19))))))
def f_X7_fails_53 (a0 : Nat) (a1 : Int32) (a2 : Int32) (a3 : Int32) (a4 : Int32) : Nat → Int32 → Int32 → Int32 → Hp → Option (Int32 × Hp)
  | 0 => fun _ _ _ _ => none
  | n + 1 => fun x5 x6 x7 h => g_X7_fails_53 a0 a1 a2 a3 a4 (f_X7_fails_53 a0 a1 a2 a3 a4 n) x5 x6 x7 h
def f_X7_fails (a0 : Nat) (a1 : Int32) (a2 : Int32) (a3 : Int32) (a4 : Int32) (h : Hp) : Option (Int32 × Hp) := (bnd (f_X7_isRoot a0 a1 h) (fun r24 h23 => (if r24 = 0 then (some ((-1 : Int32), h23)) else (bnd (f_X7_isEnding a0 a2 h23) (fun r28 h27 => (if r28 = 0 then (some ((-1 : Int32), h27)) else (bnd (f_X7_in ((a3).toInt64) (0 : Int64) (10 : Int64) h27) (fun r32 h31 => (if r32 = 0 then (some ((-2 : Int32), h31)) else (bnd (f_X7_madeBy a0 (rF a0 2) a1 a2 (15 : Int32) h31) (fun r36 h35 => f_X7_fails_53 a0 a1 a2 a3 a4 FU r36 (0 : Int32) (0 : Int32) h35)))))))))))
def f_X7_seed (a0 : Nat) (a1 : Int64) (h : Hp) : Option (Int64 × Hp) := (some ((h.2 a0), (sL h a0 a1)))
def g_X7_drawn_55 (a0 : Nat) (a1 : Int32) (k19 : Int32 → Int32 → Hp → Option (Int32 × Hp)) (k55 : Int32 → Int32 → Int64 → Int32 → Int32 → Hp → Option (Int32 × Hp)) (x2 : Int32) (x3 : Int32) (x4 : Int64) (x6 : Int32) (x7 : Int32) (h : Hp) : Option (Int32 × Hp) := (if (4 : Int32) ≤ x7 then (bnd (f_X7_behindAll (rF a0 2) x6 (h.1 a0 13) (15 : Int32) h) (fun r4 h3 => (bnd (f_X7_size r4 h3) (fun r7 h6 => k19 (x2 + r7) (x3 + (1 : Int32)) h6)))) else k55 x2 x3 x4 ((((10 : Int32) * x6) + (((((x4) >>> ((((3 : Int32) * x7)).toInt64 &&& 63)) - ((x4) >>> ((((3 : Int32) * x7)).toInt64 &&& 63)) / (5 : Int64) * (5 : Int64))).toInt32)) + (1 : Int32)) (x7 + (1 : Int32)) h)
def f_X7_drawn_55 (a0 : Nat) (a1 : Int32) (k19 : Int32 → Int32 → Hp → Option (Int32 × Hp)) : Nat → Int32 → Int32 → Int64 → Int32 → Int32 → Hp → Option (Int32 × Hp)
  | 0 => fun _ _ _ _ _ _ => none
  | n + 1 => fun x2 x3 x4 x6 x7 h => g_X7_drawn_55 a0 a1 k19 (f_X7_drawn_55 a0 a1 k19 n) x2 x3 x4 x6 x7 h
def g_X7_drawn_19 (a0 : Nat) (a1 : Int32) (k19 : Int32 → Int32 → Hp → Option (Int32 × Hp)) (x2 : Int32) (x3 : Int32) (h : Hp) : Option (Int32 × Hp) := (if a1 ≤ x3 then (some (x2, h)) else f_X7_drawn_55 a0 a1 k19 FU x2 x3 (((((sL h a0 (((h.2 a0) * (6364136223846793005 : Int64)) + (1442695040888963407 : Int64))).2 a0)).toUInt64 >>> (((33 : Int32)).toInt64.toUInt64 &&& Int64.toUInt64 63)).toInt64) (0 : Int32) (0 : Int32) (sL h a0 (((h.2 a0) * (6364136223846793005 : Int64)) + (1442695040888963407 : Int64))))
def f_X7_drawn_19 (a0 : Nat) (a1 : Int32) : Nat → Int32 → Int32 → Hp → Option (Int32 × Hp)
  | 0 => fun _ _ _ => none
  | n + 1 => fun x2 x3 h => g_X7_drawn_19 a0 a1 (f_X7_drawn_19 a0 a1 n) x2 x3 h
def f_X7_drawn (a0 : Nat) (a1 : Int32) (h : Hp) : Option (Int32 × Hp) := (bnd (f_X7_in ((a1).toInt64) (1 : Int64) (20 : Int64) h) (fun r11 h10 => (if r11 = 0 then (some ((-2 : Int32), h10)) else f_X7_drawn_19 a0 a1 FU (0 : Int32) (0 : Int32) h10)))
def g_X7_keep_21 (a0 : Nat) (a1 : Int32) (k21 : Int32 → Hp → Option (Int32 × Hp)) (x2 : Int32) (h : Hp) : Option (Int32 × Hp) := (if (32 : Int32) ≤ x2 then (bnd (f_X7_manyForms a0 h) (fun r4 h3 => (some (r4, h3)))) else (if okI x2 (lN_ (rF a0 2)) = true then (if okI (((32 : Int32) * a1) + x2) (lN_ (rF a0 7)) = true then k21 (x2 + (1 : Int32)) (sI h (rF a0 7) ((((32 : Int32) * a1) + x2)).toNatClampNeg (h.1 (rF a0 2) (x2).toNatClampNeg)) else none) else none))
def f_X7_keep_21 (a0 : Nat) (a1 : Int32) : Nat → Int32 → Hp → Option (Int32 × Hp)
  | 0 => fun _ _ => none
  | n + 1 => fun x2 h => g_X7_keep_21 a0 a1 (f_X7_keep_21 a0 a1 n) x2 h
def f_X7_keep (a0 : Nat) (a1 : Int32) (h : Hp) : Option (Int32 × Hp) := (bnd (f_X7_in ((a1).toInt64) (0 : Int64) (1 : Int64) h) (fun r9 h8 => (if r9 = 0 then (some ((-1 : Int32), h8)) else (if okI a1 (lN_ (rF a0 8)) = true then f_X7_keep_21 a0 a1 FU (0 : Int32) (sI h8 (rF a0 8) (a1).toNatClampNeg (vp_nar .boolean (1 : Int32))) else none))))
def g_X7_again_26 (a0 : Nat) (a1 : Int32) (k26 : Int32 → Hp → Option (Int32 × Hp)) (x2 : Int32) (h : Hp) : Option (Int32 × Hp) := (if (32 : Int32) ≤ x2 then (bnd (f_X7_manyForms a0 (sI h a0 5 (0 : Int32))) (fun r4 h3 => (some (r4, h3)))) else (if okI (((32 : Int32) * a1) + x2) (lN_ (rF a0 7)) = true then (if okI x2 (lN_ (rF a0 2)) = true then k26 (x2 + (1 : Int32)) (sI h (rF a0 2) (x2).toNatClampNeg (h.1 (rF a0 7) ((((32 : Int32) * a1) + x2)).toNatClampNeg)) else none) else none))
def f_X7_again_26 (a0 : Nat) (a1 : Int32) : Nat → Int32 → Hp → Option (Int32 × Hp)
  | 0 => fun _ _ => none
  | n + 1 => fun x2 h => g_X7_again_26 a0 a1 (f_X7_again_26 a0 a1 n) x2 h
def f_X7_again (a0 : Nat) (a1 : Int32) (h : Hp) : Option (Int32 × Hp) := (bnd (f_X7_in ((a1).toInt64) (0 : Int64) (1 : Int64) h) (fun r9 h8 => (if r9 = 0 then (some ((-1 : Int32), h8)) else (if okI a1 (lN_ (rF a0 8)) = true then (if (h8.1 (rF a0 8) (a1).toNatClampNeg) = 0 then (some ((-3 : Int32), h8)) else f_X7_again_26 a0 a1 FU (0 : Int32) h8) else none))))
end
section
set_option maxHeartbeats 4000000 in
set_option maxRecDepth 100000 in
theorem C_X0_add (l : Launch) (X : Cx) (hI : Inj X) {a0 : Nat} (t0 : tY a0 = 0) (a1 : Int32) (a2 : Int32) (a3 : Int32) (a4 : Int32) (h : Hp) (h0 : Hp) (hf : f_X0_add a0 a1 a2 a3 a4 h = some h0) : Mv l X yX0_add cX0_add 6 none 0 0 h [.ref (X.2.2.2 a0), .int a1, .int a2, .int a3, .int a4] h0 := by
  refine BD_of (own := RX0) hI rfl (by decide) (Nat.le_of_ble_eq_true rfl) ?_
  intro p e s m args below meth c S hr hlk hK hN
  obtain ⟨hx, hb, hml, hown, hts⟩ := id S
  have B32 : ∀ (h : Hp), g_X0_add_32 a0 a1 a2 a3 a4 h = some h0 → BK p l e ({ frames := 0, cells := 0, slots := 0, locals := 0 }) s m args below meth c (MQ below (cQv X h0) args s 0 0 (AD X)) X 6 32 [(0, .ref (X.2.2.2 a0)), (1, .int a1), (2, .int a2), (3, .int a3), (4, .int a4)] [] h := by
    intro h hf H locs ls hl hH
    unfold g_X0_add_32 at hf
    refine lv_aload_n hx hb dX0_add_32 rfl (lv_at hl 0 rfl) ?_
    refine wk_geti (ci := 0) (k := 4) S hK hH j_X0 t0 rfl hq_0_4 (hts _ (wU_in _ m_176)) dX0_add_33 ?_
    refine lv_aload_n hx hb dX0_add_36 rfl (lv_at hl 0 rfl) ?_
    refine wk_geti (ci := 0) (k := 5) S hK hH j_X0 t0 rfl hq_0_5 (hts _ (wU_in _ m_177)) dX0_add_37 ?_
    refine lv_iadd hx hb dX0_add_40 ?_
    refine lv_bipush (v := 14) hx hb dX0_add_41 (by decide) ?_
    refine lv_irem hx hb dX0_add_43 (by decide) ?_
    refine lv_istore (lv' := [(5, .int ((((h.1 a0 4) + (h.1 a0 5)) - ((h.1 a0 4) + (h.1 a0 5)) / (14 : Int32) * (14 : Int32)))), (0, .ref (X.2.2.2 a0)), (1, .int a1), (2, .int a2), (3, .int a3), (4, .int a4)]) hx hb dX0_add_44 hl (by decide) rfl (fun ls hl => ?_)
    refine lv_aload_n hx hb dX0_add_46 rfl (lv_at hl 1 rfl) ?_
    refine wk_getr (ci := 0) (k := 0) S hK hH j_X0 t0 rfl hq_0_0 (hts _ (wU_in _ m_172)) dX0_add_47 ?_
    refine lv_iload hx hb dX0_add_50 (lv_at hl 0 rfl) ?_
    refine lv_iload_n hx hb dX0_add_52 rfl (lv_at hl 2 rfl) ?_
    obtain ⟨o1, hf⟩ := ite_ok hf
    refine wk_iast S hK hH (tr_0_0 t0) o1 dX0_add_53 (fun H locs hH => ?_)
    refine lv_aload_n hx hb dX0_add_54 rfl (lv_at hl 1 rfl) ?_
    refine wk_getr (ci := 0) (k := 1) S hK hH j_X0 t0 rfl hq_0_1 (hts _ (wU_in _ m_173)) dX0_add_55 ?_
    refine lv_iload hx hb dX0_add_58 (lv_at hl 0 rfl) ?_
    refine lv_iload_n hx hb dX0_add_60 rfl (lv_at hl 3 rfl) ?_
    obtain ⟨o2, hf⟩ := ite_ok hf
    refine wk_iast S hK hH (tr_0_1 t0) o2 dX0_add_61 (fun H locs hH => ?_)
    refine lv_aload_n hx hb dX0_add_62 rfl (lv_at hl 1 rfl) ?_
    refine wk_getr (ci := 0) (k := 2) S hK hH j_X0 t0 rfl hq_0_2 (hts _ (wU_in _ m_174)) dX0_add_63 ?_
    refine lv_iload hx hb dX0_add_66 (lv_at hl 0 rfl) ?_
    refine lv_iload_n hx hb dX0_add_68 rfl (lv_at hl 4 rfl) ?_
    obtain ⟨o3, hf⟩ := ite_ok hf
    refine wk_iast S hK hH (tr_0_2 t0) o3 dX0_add_69 (fun H locs hH => ?_)
    refine lv_aload_n hx hb dX0_add_70 rfl (lv_at hl 1 rfl) ?_
    refine wk_getr (ci := 0) (k := 3) S hK hH j_X0 t0 rfl hq_0_3 (hts _ (wU_in _ m_175)) dX0_add_71 ?_
    refine lv_iload hx hb dX0_add_74 (lv_at hl 0 rfl) ?_
    refine lv_iload hx hb dX0_add_76 (lv_at hl 5 rfl) ?_
    obtain ⟨o4, hf⟩ := ite_ok hf
    refine wk_iast S hK hH (tr_0_3 t0) o4 dX0_add_78 (fun H locs hH => ?_)
    refine lv_aload_n hx hb dX0_add_79 rfl (lv_at hl 1 rfl) ?_
    refine lv_dup hx hb dX0_add_80 rfl ?_
    refine wk_geti (ci := 0) (k := 5) S hK hH j_X0 t0 rfl hq_0_5 (hts _ (wU_in _ m_177)) dX0_add_81 ?_
    refine lv_iconst (v := 1) hx hb dX0_add_84 (by decide) ?_
    refine lv_iadd hx hb dX0_add_85 ?_
    refine wk_puti (ci := 0) (k := 5) S hK hH j_X0 tyX0 tyX0_ok nmX0 t0 rfl hq_0_5 rfl hd_0_5 (hts _ (wU_in _ m_177)) dX0_add_86 (fun H locs hH => ?_)
    exact wk_vret S hr hlk hK hN hH hf dX0_add_89
  intro H locs ls hl hH
  replace hl : lv_has ls 6 [(0, .ref (X.2.2.2 a0)), (1, .int a1), (2, .int a2), (3, .int a3), (4, .int a4)] := hl
  unfold f_X0_add at hf
  refine lv_aload_n hx hb dX0_add_0 rfl (lv_at hl 0 rfl) ?_
  refine wk_geti (ci := 0) (k := 5) S hK hH j_X0 t0 rfl hq_0_5 (hts _ (wU_in _ m_177)) dX0_add_1 ?_
  refine lv_bipush (v := 14) hx hb dX0_add_4 (by decide) ?_
  refine lv_icmp_ne (tgt := 32) hx hb dX0_add_6 (by decide) (fun c5 => ?_) (fun c5 => ?_)
  · replace hf := ite_f c5 hf
    exact B32 _ hf H locs ls (lv_sub hl [0, 1, 2, 3, 4] rfl) hH
  · replace hf := ite_t c5 hf
    refine lv_aload_n hx hb dX0_add_9 rfl (lv_at hl 0 rfl) ?_
    refine lv_aload_n hx hb dX0_add_10 rfl (lv_at hl 0 rfl) ?_
    refine wk_geti (ci := 0) (k := 4) S hK hH j_X0 t0 rfl hq_0_4 (hts _ (wU_in _ m_176)) dX0_add_11 ?_
    refine lv_iconst (v := 1) hx hb dX0_add_14 (by decide) ?_
    refine lv_iadd hx hb dX0_add_15 ?_
    refine lv_bipush (v := 14) hx hb dX0_add_16 (by decide) ?_
    refine lv_irem hx hb dX0_add_18 (by decide) ?_
    refine wk_puti (ci := 0) (k := 4) S hK hH j_X0 tyX0 tyX0_ok nmX0 t0 rfl hq_0_4 rfl hd_0_4 (hts _ (wU_in _ m_176)) dX0_add_19 (fun H locs hH => ?_)
    refine lv_aload_n hx hb dX0_add_22 rfl (lv_at hl 0 rfl) ?_
    refine lv_dup hx hb dX0_add_23 rfl ?_
    refine wk_geti (ci := 0) (k := 5) S hK hH j_X0 t0 rfl hq_0_5 (hts _ (wU_in _ m_177)) dX0_add_24 ?_
    refine lv_iconst (v := 1) hx hb dX0_add_27 (by decide) ?_
    refine lv_isub hx hb dX0_add_28 ?_
    refine wk_puti (ci := 0) (k := 5) S hK hH j_X0 tyX0 tyX0_ok nmX0 t0 rfl hq_0_5 rfl hd_0_5 (hts _ (wU_in _ m_177)) dX0_add_29 (fun H locs hH => ?_)
    exact B32 _ hf H locs ls (lv_sub hl [0, 1, 2, 3, 4] rfl) hH
set_option maxHeartbeats 4000000 in
set_option maxRecDepth 100000 in
theorem C_X4_exchange (l : Launch) (X : Cx) (hI : Inj X) {a0 : Nat} (t0 : tY a0 = 4) (a1 : Int32) (a2 : Int32) (h : Hp) (h0 : Hp) (hf : f_X4_exchange a0 a1 a2 h = some h0) : Mv l X yX4_exchange cX4_exchange 4 none 0 0 h [.ref (X.2.2.2 a0), .int a1, .int a2] h0 := by
  refine BD_of (own := RX4) hI rfl (by decide) (Nat.le_of_ble_eq_true rfl) ?_
  intro p e s m args below meth c S hr hlk hK hN
  obtain ⟨hx, hb, hml, hown, hts⟩ := id S
  intro H locs ls hl hH
  replace hl : lv_has ls 4 [(0, .ref (X.2.2.2 a0)), (1, .int a1), (2, .int a2)] := hl
  unfold f_X4_exchange at hf
  refine lv_aload_n hx hb dX4_exchange_0 rfl (lv_at hl 0 rfl) ?_
  refine wk_getr (ci := 4) (k := 2) S hK hH j_X4 t0 rfl hq_4_2 (hts _ (wU_in _ m_145)) dX4_exchange_1 ?_
  refine lv_iload_n hx hb dX4_exchange_4 rfl (lv_at hl 1 rfl) ?_
  obtain ⟨o1, hf⟩ := ite_ok hf
  refine wk_iald S hK hH (tr_4_2 t0) o1 dX4_exchange_5 ?_
  refine lv_istore_n (lv' := [(3, .int ((h.1 (rF a0 2) (a1).toNatClampNeg))), (0, .ref (X.2.2.2 a0)), (1, .int a1), (2, .int a2)]) hx hb dX4_exchange_6 rfl hl (by decide) rfl (fun ls hl => ?_)
  refine lv_aload_n hx hb dX4_exchange_7 rfl (lv_at hl 1 rfl) ?_
  refine wk_getr (ci := 4) (k := 2) S hK hH j_X4 t0 rfl hq_4_2 (hts _ (wU_in _ m_145)) dX4_exchange_8 ?_
  refine lv_iload_n hx hb dX4_exchange_11 rfl (lv_at hl 2 rfl) ?_
  refine lv_aload_n hx hb dX4_exchange_12 rfl (lv_at hl 1 rfl) ?_
  refine wk_getr (ci := 4) (k := 2) S hK hH j_X4 t0 rfl hq_4_2 (hts _ (wU_in _ m_145)) dX4_exchange_13 ?_
  refine lv_iload_n hx hb dX4_exchange_16 rfl (lv_at hl 3 rfl) ?_
  obtain ⟨o2, hf⟩ := ite_ok hf
  refine wk_iald S hK hH (tr_4_2 t0) o2 dX4_exchange_17 ?_
  obtain ⟨o3, hf⟩ := ite_ok hf
  refine wk_iast S hK hH (tr_4_2 t0) o3 dX4_exchange_18 (fun H locs hH => ?_)
  refine lv_aload_n hx hb dX4_exchange_19 rfl (lv_at hl 1 rfl) ?_
  refine wk_getr (ci := 4) (k := 2) S hK hH j_X4 t0 rfl hq_4_2 (hts _ (wU_in _ m_145)) dX4_exchange_20 ?_
  refine lv_iload_n hx hb dX4_exchange_23 rfl (lv_at hl 3 rfl) ?_
  refine lv_iload_n hx hb dX4_exchange_24 rfl (lv_at hl 0 rfl) ?_
  obtain ⟨o4, hf⟩ := ite_ok hf
  refine wk_iast S hK hH (tr_4_2 t0) o4 dX4_exchange_25 (fun H locs hH => ?_)
  exact wk_vret S hr hlk hK hN hH hf dX4_exchange_26
set_option maxHeartbeats 4000000 in
set_option maxRecDepth 100000 in
theorem C_X4_putSign (l : Launch) (X : Cx) (hI : Inj X) {a0 : Nat} (t0 : tY a0 = 4) (a1 : Int32) (a2 : Int32) (a3 : Int32) (h : Hp) (h0 : Hp) (hf : f_X4_putSign a0 a1 a2 a3 h = some h0) : Mv l X yX4_putSign cX4_putSign 4 none 0 0 h [.ref (X.2.2.2 a0), .int a1, .int a2, .int a3] h0 := by
  refine BD_of (own := RX4) hI rfl (by decide) (Nat.le_of_ble_eq_true rfl) ?_
  intro p e s m args below meth c S hr hlk hK hN
  obtain ⟨hx, hb, hml, hown, hts⟩ := id S
  intro H locs ls hl hH
  replace hl : lv_has ls 4 [(0, .ref (X.2.2.2 a0)), (1, .int a1), (2, .int a2), (3, .int a3)] := hl
  unfold f_X4_putSign at hf
  refine lv_aload_n hx hb dX4_putSign_0 rfl (lv_at hl 0 rfl) ?_
  refine wk_getr (ci := 4) (k := 1) S hK hH j_X4 t0 rfl hq_4_1 (hts _ (wU_in _ m_144)) dX4_putSign_1 ?_
  refine lv_iload_n hx hb dX4_putSign_4 rfl (lv_at hl 1 rfl) ?_
  refine lv_iconst (v := 4) hx hb dX4_putSign_5 (by decide) ?_
  refine lv_imul hx hb dX4_putSign_6 ?_
  refine lv_iload_n hx hb dX4_putSign_7 rfl (lv_at hl 2 rfl) ?_
  refine lv_iadd hx hb dX4_putSign_8 ?_
  refine lv_iload_n hx hb dX4_putSign_9 rfl (lv_at hl 3 rfl) ?_
  obtain ⟨o1, hf⟩ := ite_ok hf
  refine wk_iast S hK hH (tr_4_1 t0) o1 dX4_putSign_10 (fun H locs hH => ?_)
  exact wk_vret S hr hlk hK hN hH hf dX4_putSign_11
set_option maxHeartbeats 4000000 in
set_option maxRecDepth 100000 in
theorem C_X4_putForm (l : Launch) (X : Cx) (hI : Inj X) {a0 : Nat} (t0 : tY a0 = 4) (a1 : Int32) (a2 : Int32) (a3 : Int32) (h : Hp) (h0 : Hp) (hf : f_X4_putForm a0 a1 a2 a3 h = some h0) : Mv l X yX4_putForm cX4_putForm 4 none 0 0 h [.ref (X.2.2.2 a0), .int a1, .int a2, .int a3] h0 := by
  refine BD_of (own := RX4) hI rfl (by decide) (Nat.le_of_ble_eq_true rfl) ?_
  intro p e s m args below meth c S hr hlk hK hN
  obtain ⟨hx, hb, hml, hown, hts⟩ := id S
  intro H locs ls hl hH
  replace hl : lv_has ls 4 [(0, .ref (X.2.2.2 a0)), (1, .int a1), (2, .int a2), (3, .int a3)] := hl
  unfold f_X4_putForm at hf
  refine lv_aload_n hx hb dX4_putForm_0 rfl (lv_at hl 0 rfl) ?_
  refine wk_getr (ci := 4) (k := 3) S hK hH j_X4 t0 rfl hq_4_3 (hts _ (wU_in _ m_147)) dX4_putForm_1 ?_
  refine lv_iload_n hx hb dX4_putForm_4 rfl (lv_at hl 1 rfl) ?_
  refine lv_iconst (v := 3) hx hb dX4_putForm_5 (by decide) ?_
  refine lv_imul hx hb dX4_putForm_6 ?_
  refine lv_iload_n hx hb dX4_putForm_7 rfl (lv_at hl 2 rfl) ?_
  refine lv_iadd hx hb dX4_putForm_8 ?_
  refine lv_iload_n hx hb dX4_putForm_9 rfl (lv_at hl 3 rfl) ?_
  obtain ⟨o1, hf⟩ := ite_ok hf
  refine wk_iast S hK hH (tr_4_3 t0) o1 dX4_putForm_10 (fun H locs hH => ?_)
  exact wk_vret S hr hlk hK hN hH hf dX4_putForm_11
set_option maxHeartbeats 4000000 in
set_option maxRecDepth 100000 in
theorem C_X0_takeBackLast (l : Launch) (X : Cx) (hI : Inj X) {a0 : Nat} (t0 : tY a0 = 0) {a1 : Nat} (t1 : tY a1 = 4) (h : Hp) (h0 : Hp) (hf : f_X0_takeBackLast a0 a1 h = some h0) : Mv l X yX0_takeBackLast cX0_takeBackLast 3 none 1 23 h [.ref (X.2.2.2 a0), .ref (X.2.2.2 a1)] h0 := by
  refine BD_of (own := RX0) hI rfl (by decide) (Nat.le_of_ble_eq_true rfl) ?_
  intro p e s m args below meth c S hr hlk hK hN
  obtain ⟨hx, hb, hml, hown, hts⟩ := id S
  intro H locs ls hl hH
  replace hl : lv_has ls 3 [(0, .ref (X.2.2.2 a0)), (1, .ref (X.2.2.2 a1))] := hl
  unfold f_X0_takeBackLast at hf
  refine lv_aload_n hx hb dX0_takeBackLast_0 rfl (lv_at hl 0 rfl) ?_
  refine wk_geti (ci := 0) (k := 5) S hK hH j_X0 t0 rfl hq_0_5 (hts _ (wU_in _ m_177)) dX0_takeBackLast_1 ?_
  refine lv_if_ne (tgt := 8) hx hb dX0_takeBackLast_4 (by decide) (fun c1 => ?_) (fun c1 => ?_)
  · replace hf := ite_f c1 hf
    refine lv_aload_n hx hb dX0_takeBackLast_8 rfl (lv_at hl 0 rfl) ?_
    refine lv_dup hx hb dX0_takeBackLast_9 rfl ?_
    refine wk_geti (ci := 0) (k := 5) S hK hH j_X0 t0 rfl hq_0_5 (hts _ (wU_in _ m_177)) dX0_takeBackLast_10 ?_
    refine lv_iconst (v := 1) hx hb dX0_takeBackLast_13 (by decide) ?_
    refine lv_isub hx hb dX0_takeBackLast_14 ?_
    refine wk_puti (ci := 0) (k := 5) S hK hH j_X0 tyX0 tyX0_ok nmX0 t0 rfl hq_0_5 rfl hd_0_5 (hts _ (wU_in _ m_177)) dX0_takeBackLast_15 (fun H locs hH => ?_)
    refine lv_aload_n hx hb dX0_takeBackLast_18 rfl (lv_at hl 0 rfl) ?_
    refine wk_geti (ci := 0) (k := 4) S hK hH j_X0 t0 rfl hq_0_4 (hts _ (wU_in _ m_176)) dX0_takeBackLast_19 ?_
    refine lv_aload_n hx hb dX0_takeBackLast_22 rfl (lv_at hl 0 rfl) ?_
    refine wk_geti (ci := 0) (k := 5) S hK hH j_X0 t0 rfl hq_0_5 (hts _ (wU_in _ m_177)) dX0_takeBackLast_23 ?_
    refine lv_iadd hx hb dX0_takeBackLast_26 ?_
    refine lv_bipush (v := 14) hx hb dX0_takeBackLast_27 (by decide) ?_
    refine lv_irem hx hb dX0_takeBackLast_29 (by decide) ?_
    refine lv_istore_n (lv' := [(2, .int (((((sI h a0 5 ((h.1 a0 5) - (1 : Int32))).1 a0 4) + ((sI h a0 5 ((h.1 a0 5) - (1 : Int32))).1 a0 5)) - (((sI h a0 5 ((h.1 a0 5) - (1 : Int32))).1 a0 4) + ((sI h a0 5 ((h.1 a0 5) - (1 : Int32))).1 a0 5)) / (14 : Int32) * (14 : Int32)))), (0, .ref (X.2.2.2 a0)), (1, .ref (X.2.2.2 a1))]) hx hb dX0_takeBackLast_30 rfl hl (by decide) rfl (fun ls hl => ?_)
    refine lv_aload_n hx hb dX0_takeBackLast_31 rfl (lv_at hl 1 rfl) ?_
    refine wk_getr (ci := 0) (k := 0) S hK hH j_X0 t0 rfl hq_0_0 (hts _ (wU_in _ m_172)) dX0_takeBackLast_32 ?_
    refine lv_iload_n hx hb dX0_takeBackLast_35 rfl (lv_at hl 0 rfl) ?_
    obtain ⟨o2, hf⟩ := ite_ok hf
    refine wk_iald S hK hH (tr_0_0 t0) o2 dX0_takeBackLast_36 ?_
    by_cases c3 : ((sI h a0 5 ((h.1 a0 5) - (1 : Int32))).1 (rF a0 0) (((((sI h a0 5 ((h.1 a0 5) - (1 : Int32))).1 a0 4) + ((sI h a0 5 ((h.1 a0 5) - (1 : Int32))).1 a0 5)) - (((sI h a0 5 ((h.1 a0 5) - (1 : Int32))).1 a0 4) + ((sI h a0 5 ((h.1 a0 5) - (1 : Int32))).1 a0 5)) / (14 : Int32) * (14 : Int32))).toNatClampNeg) = 1
    · replace hf := ite_t c3 hf
      refine lv_tableIn (off := 27) (tgt := 64) hx hb dX0_takeBackLast_37 (by rw [c3]; decide) (by rw [c3]; decide) (by rw [c3]; decide) (by decide) ?_
      refine lv_aload_n hx hb dX0_takeBackLast_64 rfl (lv_at hl 2 rfl) ?_
      refine lv_aload_n hx hb dX0_takeBackLast_65 rfl (lv_at hl 1 rfl) ?_
      refine wk_getr (ci := 0) (k := 1) S hK hH j_X0 t0 rfl hq_0_1 (hts _ (wU_in _ m_173)) dX0_takeBackLast_66 ?_
      refine lv_iload_n hx hb dX0_takeBackLast_69 rfl (lv_at hl 0 rfl) ?_
      obtain ⟨o4, hf⟩ := ite_ok hf
      refine wk_iald S hK hH (tr_0_1 t0) o4 dX0_takeBackLast_70 ?_
      refine lv_aload_n hx hb dX0_takeBackLast_71 rfl (lv_at hl 1 rfl) ?_
      refine wk_getr (ci := 0) (k := 2) S hK hH j_X0 t0 rfl hq_0_2 (hts _ (wU_in _ m_174)) dX0_takeBackLast_72 ?_
      refine lv_iload_n hx hb dX0_takeBackLast_75 rfl (lv_at hl 0 rfl) ?_
      obtain ⟨o5, hf⟩ := ite_ok hf
      refine wk_iald S hK hH (tr_0_2 t0) o5 dX0_takeBackLast_76 ?_
      obtain ⟨h7, hq6, hf⟩ := bind_ok hf
      refine wk_callVv (ci := 4) (b := a1) (As := [.int (((sI h a0 5 ((h.1 a0 5) - (1 : Int32))).1 (rF a0 1) (((((sI h a0 5 ((h.1 a0 5) - (1 : Int32))).1 a0 4) + ((sI h a0 5 ((h.1 a0 5) - (1 : Int32))).1 a0 5)) - (((sI h a0 5 ((h.1 a0 5) - (1 : Int32))).1 a0 4) + ((sI h a0 5 ((h.1 a0 5) - (1 : Int32))).1 a0 5)) / (14 : Int32) * (14 : Int32))).toNatClampNeg)), .int (((sI h a0 5 ((h.1 a0 5) - (1 : Int32))).1 (rF a0 2) (((((sI h a0 5 ((h.1 a0 5) - (1 : Int32))).1 a0 4) + ((sI h a0 5 ((h.1 a0 5) - (1 : Int32))).1 a0 5)) - (((sI h a0 5 ((h.1 a0 5) - (1 : Int32))).1 a0 4) + ((sI h a0 5 ((h.1 a0 5) - (1 : Int32))).1 a0 5)) / (14 : Int32) * (14 : Int32))).toNatClampNeg))]) (rest := []) S hK hN hH t1 (by decide) rfl (C_X4_exchange l X hI t1 ((sI h a0 5 ((h.1 a0 5) - (1 : Int32))).1 (rF a0 1) (((((sI h a0 5 ((h.1 a0 5) - (1 : Int32))).1 a0 4) + ((sI h a0 5 ((h.1 a0 5) - (1 : Int32))).1 a0 5)) - (((sI h a0 5 ((h.1 a0 5) - (1 : Int32))).1 a0 4) + ((sI h a0 5 ((h.1 a0 5) - (1 : Int32))).1 a0 5)) / (14 : Int32) * (14 : Int32))).toNatClampNeg) ((sI h a0 5 ((h.1 a0 5) - (1 : Int32))).1 (rF a0 2) (((((sI h a0 5 ((h.1 a0 5) - (1 : Int32))).1 a0 4) + ((sI h a0 5 ((h.1 a0 5) - (1 : Int32))).1 a0 5)) - (((sI h a0 5 ((h.1 a0 5) - (1 : Int32))).1 a0 4) + ((sI h a0 5 ((h.1 a0 5) - (1 : Int32))).1 a0 5)) / (14 : Int32) * (14 : Int32))).toNatClampNeg) _ _ hq6) (cwV 2 hts (gV wU_in m_482 m_450 m_451 m_38 m_452) rfl rfl rfl hdV_X4_exchange ⟨Nat.le_of_ble_eq_true rfl, Nat.le_of_ble_eq_true rfl⟩) hl.1 rfl rfl (Nat.le_of_ble_eq_true rfl) dX0_takeBackLast_77 ⟨Nat.zero_le _, Nat.zero_le _⟩ (fun H locs hH => ?_)
      refine lv_goto (tgt := 133) hx hb dX0_takeBackLast_80 (by decide) ?_
      exact wk_vret S hr hlk hK hN hH hf dX0_takeBackLast_133
    replace hf := ite_f c3 hf
    by_cases c9 : ((sI h a0 5 ((h.1 a0 5) - (1 : Int32))).1 (rF a0 0) (((((sI h a0 5 ((h.1 a0 5) - (1 : Int32))).1 a0 4) + ((sI h a0 5 ((h.1 a0 5) - (1 : Int32))).1 a0 5)) - (((sI h a0 5 ((h.1 a0 5) - (1 : Int32))).1 a0 4) + ((sI h a0 5 ((h.1 a0 5) - (1 : Int32))).1 a0 5)) / (14 : Int32) * (14 : Int32))).toNatClampNeg) = 2
    · replace hf := ite_t c9 hf
      refine lv_tableIn (off := 46) (tgt := 83) hx hb dX0_takeBackLast_37 (by rw [c9]; decide) (by rw [c9]; decide) (by rw [c9]; decide) (by decide) ?_
      refine lv_aload_n hx hb dX0_takeBackLast_83 rfl (lv_at hl 2 rfl) ?_
      refine lv_aload_n hx hb dX0_takeBackLast_84 rfl (lv_at hl 1 rfl) ?_
      refine wk_getr (ci := 0) (k := 1) S hK hH j_X0 t0 rfl hq_0_1 (hts _ (wU_in _ m_173)) dX0_takeBackLast_85 ?_
      refine lv_iload_n hx hb dX0_takeBackLast_88 rfl (lv_at hl 0 rfl) ?_
      obtain ⟨o10, hf⟩ := ite_ok hf
      refine wk_iald S hK hH (tr_0_1 t0) o10 dX0_takeBackLast_89 ?_
      refine lv_aload_n hx hb dX0_takeBackLast_90 rfl (lv_at hl 1 rfl) ?_
      refine wk_getr (ci := 0) (k := 2) S hK hH j_X0 t0 rfl hq_0_2 (hts _ (wU_in _ m_174)) dX0_takeBackLast_91 ?_
      refine lv_iload_n hx hb dX0_takeBackLast_94 rfl (lv_at hl 0 rfl) ?_
      obtain ⟨o11, hf⟩ := ite_ok hf
      refine wk_iald S hK hH (tr_0_2 t0) o11 dX0_takeBackLast_95 ?_
      refine lv_aload_n hx hb dX0_takeBackLast_96 rfl (lv_at hl 1 rfl) ?_
      refine wk_getr (ci := 0) (k := 3) S hK hH j_X0 t0 rfl hq_0_3 (hts _ (wU_in _ m_175)) dX0_takeBackLast_97 ?_
      refine lv_iload_n hx hb dX0_takeBackLast_100 rfl (lv_at hl 0 rfl) ?_
      obtain ⟨o12, hf⟩ := ite_ok hf
      refine wk_iald S hK hH (tr_0_3 t0) o12 dX0_takeBackLast_101 ?_
      obtain ⟨h14, hq13, hf⟩ := bind_ok hf
      refine wk_callVv (ci := 4) (b := a1) (As := [.int (((sI h a0 5 ((h.1 a0 5) - (1 : Int32))).1 (rF a0 1) (((((sI h a0 5 ((h.1 a0 5) - (1 : Int32))).1 a0 4) + ((sI h a0 5 ((h.1 a0 5) - (1 : Int32))).1 a0 5)) - (((sI h a0 5 ((h.1 a0 5) - (1 : Int32))).1 a0 4) + ((sI h a0 5 ((h.1 a0 5) - (1 : Int32))).1 a0 5)) / (14 : Int32) * (14 : Int32))).toNatClampNeg)), .int (((sI h a0 5 ((h.1 a0 5) - (1 : Int32))).1 (rF a0 2) (((((sI h a0 5 ((h.1 a0 5) - (1 : Int32))).1 a0 4) + ((sI h a0 5 ((h.1 a0 5) - (1 : Int32))).1 a0 5)) - (((sI h a0 5 ((h.1 a0 5) - (1 : Int32))).1 a0 4) + ((sI h a0 5 ((h.1 a0 5) - (1 : Int32))).1 a0 5)) / (14 : Int32) * (14 : Int32))).toNatClampNeg)), .int (((sI h a0 5 ((h.1 a0 5) - (1 : Int32))).1 (rF a0 3) (((((sI h a0 5 ((h.1 a0 5) - (1 : Int32))).1 a0 4) + ((sI h a0 5 ((h.1 a0 5) - (1 : Int32))).1 a0 5)) - (((sI h a0 5 ((h.1 a0 5) - (1 : Int32))).1 a0 4) + ((sI h a0 5 ((h.1 a0 5) - (1 : Int32))).1 a0 5)) / (14 : Int32) * (14 : Int32))).toNatClampNeg))]) (rest := []) S hK hN hH t1 (by decide) rfl (C_X4_putSign l X hI t1 ((sI h a0 5 ((h.1 a0 5) - (1 : Int32))).1 (rF a0 1) (((((sI h a0 5 ((h.1 a0 5) - (1 : Int32))).1 a0 4) + ((sI h a0 5 ((h.1 a0 5) - (1 : Int32))).1 a0 5)) - (((sI h a0 5 ((h.1 a0 5) - (1 : Int32))).1 a0 4) + ((sI h a0 5 ((h.1 a0 5) - (1 : Int32))).1 a0 5)) / (14 : Int32) * (14 : Int32))).toNatClampNeg) ((sI h a0 5 ((h.1 a0 5) - (1 : Int32))).1 (rF a0 2) (((((sI h a0 5 ((h.1 a0 5) - (1 : Int32))).1 a0 4) + ((sI h a0 5 ((h.1 a0 5) - (1 : Int32))).1 a0 5)) - (((sI h a0 5 ((h.1 a0 5) - (1 : Int32))).1 a0 4) + ((sI h a0 5 ((h.1 a0 5) - (1 : Int32))).1 a0 5)) / (14 : Int32) * (14 : Int32))).toNatClampNeg) ((sI h a0 5 ((h.1 a0 5) - (1 : Int32))).1 (rF a0 3) (((((sI h a0 5 ((h.1 a0 5) - (1 : Int32))).1 a0 4) + ((sI h a0 5 ((h.1 a0 5) - (1 : Int32))).1 a0 5)) - (((sI h a0 5 ((h.1 a0 5) - (1 : Int32))).1 a0 4) + ((sI h a0 5 ((h.1 a0 5) - (1 : Int32))).1 a0 5)) / (14 : Int32) * (14 : Int32))).toNatClampNeg) _ _ hq13) (cwV 3 hts (gV wU_in m_483 m_463 m_464 m_38 m_465) rfl rfl rfl hdV_X4_putSign ⟨Nat.le_of_ble_eq_true rfl, Nat.le_of_ble_eq_true rfl⟩) hl.1 rfl rfl (Nat.le_of_ble_eq_true rfl) dX0_takeBackLast_102 ⟨Nat.zero_le _, Nat.zero_le _⟩ (fun H locs hH => ?_)
      refine lv_goto (tgt := 133) hx hb dX0_takeBackLast_105 (by decide) ?_
      exact wk_vret S hr hlk hK hN hH hf dX0_takeBackLast_133
    replace hf := ite_f c9 hf
    by_cases c16 : ((sI h a0 5 ((h.1 a0 5) - (1 : Int32))).1 (rF a0 0) (((((sI h a0 5 ((h.1 a0 5) - (1 : Int32))).1 a0 4) + ((sI h a0 5 ((h.1 a0 5) - (1 : Int32))).1 a0 5)) - (((sI h a0 5 ((h.1 a0 5) - (1 : Int32))).1 a0 4) + ((sI h a0 5 ((h.1 a0 5) - (1 : Int32))).1 a0 5)) / (14 : Int32) * (14 : Int32))).toNatClampNeg) = 3
    · replace hf := ite_t c16 hf
      refine lv_tableIn (off := 71) (tgt := 108) hx hb dX0_takeBackLast_37 (by rw [c16]; decide) (by rw [c16]; decide) (by rw [c16]; decide) (by decide) ?_
      refine lv_aload_n hx hb dX0_takeBackLast_108 rfl (lv_at hl 2 rfl) ?_
      refine lv_aload_n hx hb dX0_takeBackLast_109 rfl (lv_at hl 1 rfl) ?_
      refine wk_getr (ci := 0) (k := 1) S hK hH j_X0 t0 rfl hq_0_1 (hts _ (wU_in _ m_173)) dX0_takeBackLast_110 ?_
      refine lv_iload_n hx hb dX0_takeBackLast_113 rfl (lv_at hl 0 rfl) ?_
      obtain ⟨o17, hf⟩ := ite_ok hf
      refine wk_iald S hK hH (tr_0_1 t0) o17 dX0_takeBackLast_114 ?_
      refine lv_aload_n hx hb dX0_takeBackLast_115 rfl (lv_at hl 1 rfl) ?_
      refine wk_getr (ci := 0) (k := 2) S hK hH j_X0 t0 rfl hq_0_2 (hts _ (wU_in _ m_174)) dX0_takeBackLast_116 ?_
      refine lv_iload_n hx hb dX0_takeBackLast_119 rfl (lv_at hl 0 rfl) ?_
      obtain ⟨o18, hf⟩ := ite_ok hf
      refine wk_iald S hK hH (tr_0_2 t0) o18 dX0_takeBackLast_120 ?_
      refine lv_aload_n hx hb dX0_takeBackLast_121 rfl (lv_at hl 1 rfl) ?_
      refine wk_getr (ci := 0) (k := 3) S hK hH j_X0 t0 rfl hq_0_3 (hts _ (wU_in _ m_175)) dX0_takeBackLast_122 ?_
      refine lv_iload_n hx hb dX0_takeBackLast_125 rfl (lv_at hl 0 rfl) ?_
      obtain ⟨o19, hf⟩ := ite_ok hf
      refine wk_iald S hK hH (tr_0_3 t0) o19 dX0_takeBackLast_126 ?_
      obtain ⟨h21, hq20, hf⟩ := bind_ok hf
      refine wk_callVv (ci := 4) (b := a1) (As := [.int (((sI h a0 5 ((h.1 a0 5) - (1 : Int32))).1 (rF a0 1) (((((sI h a0 5 ((h.1 a0 5) - (1 : Int32))).1 a0 4) + ((sI h a0 5 ((h.1 a0 5) - (1 : Int32))).1 a0 5)) - (((sI h a0 5 ((h.1 a0 5) - (1 : Int32))).1 a0 4) + ((sI h a0 5 ((h.1 a0 5) - (1 : Int32))).1 a0 5)) / (14 : Int32) * (14 : Int32))).toNatClampNeg)), .int (((sI h a0 5 ((h.1 a0 5) - (1 : Int32))).1 (rF a0 2) (((((sI h a0 5 ((h.1 a0 5) - (1 : Int32))).1 a0 4) + ((sI h a0 5 ((h.1 a0 5) - (1 : Int32))).1 a0 5)) - (((sI h a0 5 ((h.1 a0 5) - (1 : Int32))).1 a0 4) + ((sI h a0 5 ((h.1 a0 5) - (1 : Int32))).1 a0 5)) / (14 : Int32) * (14 : Int32))).toNatClampNeg)), .int (((sI h a0 5 ((h.1 a0 5) - (1 : Int32))).1 (rF a0 3) (((((sI h a0 5 ((h.1 a0 5) - (1 : Int32))).1 a0 4) + ((sI h a0 5 ((h.1 a0 5) - (1 : Int32))).1 a0 5)) - (((sI h a0 5 ((h.1 a0 5) - (1 : Int32))).1 a0 4) + ((sI h a0 5 ((h.1 a0 5) - (1 : Int32))).1 a0 5)) / (14 : Int32) * (14 : Int32))).toNatClampNeg))]) (rest := []) S hK hN hH t1 (by decide) rfl (C_X4_putForm l X hI t1 ((sI h a0 5 ((h.1 a0 5) - (1 : Int32))).1 (rF a0 1) (((((sI h a0 5 ((h.1 a0 5) - (1 : Int32))).1 a0 4) + ((sI h a0 5 ((h.1 a0 5) - (1 : Int32))).1 a0 5)) - (((sI h a0 5 ((h.1 a0 5) - (1 : Int32))).1 a0 4) + ((sI h a0 5 ((h.1 a0 5) - (1 : Int32))).1 a0 5)) / (14 : Int32) * (14 : Int32))).toNatClampNeg) ((sI h a0 5 ((h.1 a0 5) - (1 : Int32))).1 (rF a0 2) (((((sI h a0 5 ((h.1 a0 5) - (1 : Int32))).1 a0 4) + ((sI h a0 5 ((h.1 a0 5) - (1 : Int32))).1 a0 5)) - (((sI h a0 5 ((h.1 a0 5) - (1 : Int32))).1 a0 4) + ((sI h a0 5 ((h.1 a0 5) - (1 : Int32))).1 a0 5)) / (14 : Int32) * (14 : Int32))).toNatClampNeg) ((sI h a0 5 ((h.1 a0 5) - (1 : Int32))).1 (rF a0 3) (((((sI h a0 5 ((h.1 a0 5) - (1 : Int32))).1 a0 4) + ((sI h a0 5 ((h.1 a0 5) - (1 : Int32))).1 a0 5)) - (((sI h a0 5 ((h.1 a0 5) - (1 : Int32))).1 a0 4) + ((sI h a0 5 ((h.1 a0 5) - (1 : Int32))).1 a0 5)) / (14 : Int32) * (14 : Int32))).toNatClampNeg) _ _ hq20) (cwV 3 hts (gV wU_in m_484 m_471 m_472 m_38 m_473) rfl rfl rfl hdV_X4_putForm ⟨Nat.le_of_ble_eq_true rfl, Nat.le_of_ble_eq_true rfl⟩) hl.1 rfl rfl (Nat.le_of_ble_eq_true rfl) dX0_takeBackLast_127 ⟨Nat.zero_le _, Nat.zero_le _⟩ (fun H locs hH => ?_)
      refine lv_goto (tgt := 133) hx hb dX0_takeBackLast_130 (by decide) ?_
      exact wk_vret S hr hlk hK hN hH hf dX0_takeBackLast_133
    replace hf := ite_f c16 hf
    have ec3 := lv_neT (a := 1) c3 (by decide)
    have ec9 := lv_neT (a := 2) c9 (by decide)
    have ec16 := lv_neT (a := 3) c16 (by decide)
    refine lv_tableOut (tgt := 133) hx hb dX0_takeBackLast_37 (by omega) (by decide) ?_
    exact wk_vret S hr hlk hK hN hH hf dX0_takeBackLast_133
  · replace hf := ite_t c1 hf
    exact wk_vret S hr hlk hK hN hH hf dX0_takeBackLast_7
set_option maxHeartbeats 4000000 in
set_option maxRecDepth 100000 in
theorem C_X1_add (l : Launch) (X : Cx) (hI : Inj X) {a0 : Nat} (t0 : tY a0 = 1) (a1 : Int32) (a2 : Int32) (a3 : Int32) (a4 : Int32) (h : Hp) (r0 : Int32) (h0 : Hp) (hf : f_X1_add a0 a1 a2 a3 a4 h = some (r0, h0)) : Mi l X yX1_add cX1_add 5 (some .boolean) 0 0 h [.ref (X.2.2.2 a0), .int a1, .int a2, .int a3, .int a4] r0 h0 := by
  refine BD_of (own := RX1) hI rfl (by decide) (Nat.le_of_ble_eq_true rfl) ?_
  intro p e s m args below meth c S hr hlk hK hN
  obtain ⟨hx, hb, hml, hown, hts⟩ := id S
  intro H locs ls hl hH
  replace hl : lv_has ls 5 [(0, .ref (X.2.2.2 a0)), (1, .int a1), (2, .int a2), (3, .int a3), (4, .int a4)] := hl
  unfold f_X1_add at hf
  refine lv_aload_n hx hb dX1_add_0 rfl (lv_at hl 0 rfl) ?_
  refine wk_geti (ci := 1) (k := 4) S hK hH j_X1 t0 rfl hq_1_4 (hts _ (wU_in _ m_203)) dX1_add_1 ?_
  refine lv_bipush (v := 6) hx hb dX1_add_4 (by decide) ?_
  refine lv_icmp_lt (tgt := 11) hx hb dX1_add_6 (by decide) (fun c1 => ?_) (fun c1 => ?_)
  · replace hf := ite_t c1 hf
    refine lv_aload_n hx hb dX1_add_11 rfl (lv_at hl 0 rfl) ?_
    refine wk_getr (ci := 1) (k := 0) S hK hH j_X1 t0 rfl hq_1_0 (hts _ (wU_in _ m_199)) dX1_add_12 ?_
    refine lv_aload_n hx hb dX1_add_15 rfl (lv_at hl 0 rfl) ?_
    refine wk_geti (ci := 1) (k := 4) S hK hH j_X1 t0 rfl hq_1_4 (hts _ (wU_in _ m_203)) dX1_add_16 ?_
    refine lv_iload_n hx hb dX1_add_19 rfl (lv_at hl 1 rfl) ?_
    obtain ⟨o2, hf⟩ := ite_ok hf
    refine wk_iast S hK hH (tr_1_0 t0) o2 dX1_add_20 (fun H locs hH => ?_)
    refine lv_aload_n hx hb dX1_add_21 rfl (lv_at hl 0 rfl) ?_
    refine wk_getr (ci := 1) (k := 1) S hK hH j_X1 t0 rfl hq_1_1 (hts _ (wU_in _ m_200)) dX1_add_22 ?_
    refine lv_aload_n hx hb dX1_add_25 rfl (lv_at hl 0 rfl) ?_
    refine wk_geti (ci := 1) (k := 4) S hK hH j_X1 t0 rfl hq_1_4 (hts _ (wU_in _ m_203)) dX1_add_26 ?_
    refine lv_iload_n hx hb dX1_add_29 rfl (lv_at hl 2 rfl) ?_
    obtain ⟨o3, hf⟩ := ite_ok hf
    refine wk_iast S hK hH (tr_1_1 t0) o3 dX1_add_30 (fun H locs hH => ?_)
    refine lv_aload_n hx hb dX1_add_31 rfl (lv_at hl 0 rfl) ?_
    refine wk_getr (ci := 1) (k := 2) S hK hH j_X1 t0 rfl hq_1_2 (hts _ (wU_in _ m_201)) dX1_add_32 ?_
    refine lv_aload_n hx hb dX1_add_35 rfl (lv_at hl 0 rfl) ?_
    refine wk_geti (ci := 1) (k := 4) S hK hH j_X1 t0 rfl hq_1_4 (hts _ (wU_in _ m_203)) dX1_add_36 ?_
    refine lv_iload_n hx hb dX1_add_39 rfl (lv_at hl 3 rfl) ?_
    obtain ⟨o4, hf⟩ := ite_ok hf
    refine wk_iast S hK hH (tr_1_2 t0) o4 dX1_add_40 (fun H locs hH => ?_)
    refine lv_aload_n hx hb dX1_add_41 rfl (lv_at hl 0 rfl) ?_
    refine wk_getr (ci := 1) (k := 3) S hK hH j_X1 t0 rfl hq_1_3 (hts _ (wU_in _ m_202)) dX1_add_42 ?_
    refine lv_aload_n hx hb dX1_add_45 rfl (lv_at hl 0 rfl) ?_
    refine wk_geti (ci := 1) (k := 4) S hK hH j_X1 t0 rfl hq_1_4 (hts _ (wU_in _ m_203)) dX1_add_46 ?_
    refine lv_iload hx hb dX1_add_49 (lv_at hl 4 rfl) ?_
    obtain ⟨o5, hf⟩ := ite_ok hf
    refine wk_zast S hK hH (tr_1_3 t0) o5 dX1_add_51 (fun H locs hH => ?_)
    refine lv_aload_n hx hb dX1_add_52 rfl (lv_at hl 0 rfl) ?_
    refine lv_dup hx hb dX1_add_53 rfl ?_
    refine wk_geti (ci := 1) (k := 4) S hK hH j_X1 t0 rfl hq_1_4 (hts _ (wU_in _ m_203)) dX1_add_54 ?_
    refine lv_iconst (v := 1) hx hb dX1_add_57 (by decide) ?_
    refine lv_iadd hx hb dX1_add_58 ?_
    refine wk_puti (ci := 1) (k := 4) S hK hH j_X1 tyX1 tyX1_ok nmX1 t0 rfl hq_1_4 rfl hd_1_4 (hts _ (wU_in _ m_203)) dX1_add_59 (fun H locs hH => ?_)
    refine lv_iconst (v := 1) hx hb dX1_add_62 (by decide) ?_
    exact wk_zret S hr hlk hK hN hH rfl hf dX1_add_63
  · replace hf := ite_f c1 hf
    refine lv_iconst (v := 0) hx hb dX1_add_9 (by decide) ?_
    exact wk_zret S hr hlk hK hN hH rfl hf dX1_add_10
set_option maxHeartbeats 4000000 in
set_option maxRecDepth 100000 in
theorem C_X2_hasEnding (l : Launch) (X : Cx) (hI : Inj X) {a0 : Nat} (t0 : tY a0 = 2) (a1 : Int32) (h : Hp) (r0 : Int32) (h0 : Hp) (hf : f_X2_hasEnding a0 a1 h = some (r0, h0)) : Mi l X yX2_hasEnding cX2_hasEnding 2 (some .boolean) 0 0 h [.ref (X.2.2.2 a0), .int a1] r0 h0 := by
  refine BD_of (own := RX2) hI rfl (by decide) (Nat.le_of_ble_eq_true rfl) ?_
  intro p e s m args below meth c S hr hlk hK hN
  obtain ⟨hx, hb, hml, hown, hts⟩ := id S
  intro H locs ls hl hH
  replace hl : lv_has ls 2 [(0, .ref (X.2.2.2 a0)), (1, .int a1)] := hl
  unfold f_X2_hasEnding at hf
  refine lv_iload_n hx hb dX2_hasEnding_0 rfl (lv_at hl 1 rfl) ?_
  refine lv_if_lt (tgt := 16) hx hb dX2_hasEnding_1 (by decide) (fun c1 => ?_) (fun c1 => ?_)
  · replace hf := ite_t c1 hf
    refine lv_iconst (v := 0) hx hb dX2_hasEnding_16 (by decide) ?_
    exact wk_zret S hr hlk hK hN hH rfl hf dX2_hasEnding_17
  · replace hf := ite_f c1 hf
    refine lv_iload_n hx hb dX2_hasEnding_4 rfl (lv_at hl 1 rfl) ?_
    refine lv_aload_n hx hb dX2_hasEnding_5 rfl (lv_at hl 0 rfl) ?_
    refine wk_geti (ci := 2) (k := 3) S hK hH j_X2 t0 rfl hq_2_3 (hts _ (wU_in _ m_125)) dX2_hasEnding_6 ?_
    refine lv_icmp_ge (tgt := 16) hx hb dX2_hasEnding_9 (by decide) (fun c2 => ?_) (fun c2 => ?_)
    · replace hf := ite_t c2 hf
      refine lv_iconst (v := 0) hx hb dX2_hasEnding_16 (by decide) ?_
      exact wk_zret S hr hlk hK hN hH rfl hf dX2_hasEnding_17
    · replace hf := ite_f c2 hf
      refine lv_iconst (v := 1) hx hb dX2_hasEnding_12 (by decide) ?_
      refine lv_goto (tgt := 17) hx hb dX2_hasEnding_13 (by decide) ?_
      exact wk_zret S hr hlk hK hN hH rfl hf dX2_hasEnding_17
set_option maxHeartbeats 4000000 in
set_option maxRecDepth 100000 in
theorem C_X5_join (l : Launch) (X : Cx) (hI : Inj X) (a0 : Int32) (a1 : Int32) (h : Hp) (r0 : Int32) (h0 : Hp) (hf : f_X5_join a0 a1 h = some (r0, h0)) : Mi l X yX5_join cX5_join 2 (some .int) 0 0 h [.int a0, .int a1] r0 h0 := by
  refine BD_of (own := RX5) hI rfl (by decide) (Nat.le_of_ble_eq_true rfl) ?_
  intro p e s m args below meth c S hr hlk hK hN
  obtain ⟨hx, hb, hml, hown, hts⟩ := id S
  have B13 : ∀ (z0 : Int32) (h : Hp), g_X5_join_13 a0 a1 z0 h = some (r0, h0) → BK p l e ({ frames := 0, cells := 0, slots := 0, locals := 0 }) s m args below meth c (MQ below (cQi X r0 h0) args s 0 0 (AD X)) X 2 13 [(0, .int a0), (1, .int a1)] [.int z0] h := by
    intro z0 h hf H locs ls hl hH
    unfold g_X5_join_13 at hf
    refine lv_iload_n hx hb dX5_join_13 rfl (lv_at hl 0 rfl) ?_
    refine lv_imul hx hb dX5_join_14 ?_
    refine lv_iload_n hx hb dX5_join_15 rfl (lv_at hl 1 rfl) ?_
    refine lv_iadd hx hb dX5_join_16 ?_
    exact wk_iret S hr hlk hK hN hH hf dX5_join_17
  intro H locs ls hl hH
  replace hl : lv_has ls 2 [(0, .int a0), (1, .int a1)] := hl
  unfold f_X5_join at hf
  refine lv_iload_n hx hb dX5_join_0 rfl (lv_at hl 1 rfl) ?_
  refine lv_bipush (v := 10) hx hb dX5_join_1 (by decide) ?_
  refine lv_icmp_ge (tgt := 11) hx hb dX5_join_3 (by decide) (fun c1 => ?_) (fun c1 => ?_)
  · replace hf := ite_t c1 hf
    refine lv_bipush (v := 100) hx hb dX5_join_11 (by decide) ?_
    exact B13 _ _ hf H locs ls (lv_sub hl [0, 1] rfl) hH
  · replace hf := ite_f c1 hf
    refine lv_bipush (v := 10) hx hb dX5_join_6 (by decide) ?_
    refine lv_goto (tgt := 13) hx hb dX5_join_8 (by decide) ?_
    exact B13 _ _ hf H locs ls (lv_sub hl [0, 1] rfl) hH
set_option maxHeartbeats 4000000 in
set_option maxRecDepth 100000 in
theorem C_X4_signOf (l : Launch) (X : Cx) (hI : Inj X) {a0 : Nat} (t0 : tY a0 = 4) (a1 : Int32) (a2 : Int32) (h : Hp) (r0 : Int32) (h0 : Hp) (hf : f_X4_signOf a0 a1 a2 h = some (r0, h0)) : Mi l X yX4_signOf cX4_signOf 3 (some .int) 0 0 h [.ref (X.2.2.2 a0), .int a1, .int a2] r0 h0 := by
  refine BD_of (own := RX4) hI rfl (by decide) (Nat.le_of_ble_eq_true rfl) ?_
  intro p e s m args below meth c S hr hlk hK hN
  obtain ⟨hx, hb, hml, hown, hts⟩ := id S
  intro H locs ls hl hH
  replace hl : lv_has ls 3 [(0, .ref (X.2.2.2 a0)), (1, .int a1), (2, .int a2)] := hl
  unfold f_X4_signOf at hf
  refine lv_aload_n hx hb dX4_signOf_0 rfl (lv_at hl 0 rfl) ?_
  refine wk_getr (ci := 4) (k := 1) S hK hH j_X4 t0 rfl hq_4_1 (hts _ (wU_in _ m_144)) dX4_signOf_1 ?_
  refine lv_iload_n hx hb dX4_signOf_4 rfl (lv_at hl 1 rfl) ?_
  refine lv_iconst (v := 4) hx hb dX4_signOf_5 (by decide) ?_
  refine lv_imul hx hb dX4_signOf_6 ?_
  refine lv_iload_n hx hb dX4_signOf_7 rfl (lv_at hl 2 rfl) ?_
  refine lv_iadd hx hb dX4_signOf_8 ?_
  obtain ⟨o1, hf⟩ := ite_ok hf
  refine wk_iald S hK hH (tr_4_1 t0) o1 dX4_signOf_9 ?_
  exact wk_iret S hr hlk hK hN hH hf dX4_signOf_10
set_option maxHeartbeats 4000000 in
set_option maxRecDepth 100000 in
theorem C_X5_fits (l : Launch) (X : Cx) (hI : Inj X) (a0 : Int32) (a1 : Int32) (h : Hp) (r0 : Int32) (h0 : Hp) (hf : f_X5_fits a0 a1 h = some (r0, h0)) : Mi l X yX5_fits cX5_fits 2 (some .boolean) 0 0 h [.int a0, .int a1] r0 h0 := by
  refine BD_of (own := RX5) hI rfl (by decide) (Nat.le_of_ble_eq_true rfl) ?_
  intro p e s m args below meth c S hr hlk hK hN
  obtain ⟨hx, hb, hml, hown, hts⟩ := id S
  have B20 : ∀ (z0 : Int32) (z1 : Int32) (h : Hp), g_X5_fits_20 a0 a1 z0 z1 h = some (r0, h0) → BK p l e ({ frames := 0, cells := 0, slots := 0, locals := 0 }) s m args below meth c (MQ below (cQi X r0 h0) args s 0 0 (AD X)) X 2 20 [] [.int z1, .int z0] h := by
    intro z0 z1 h hf H locs ls hl hH
    unfold g_X5_fits_20 at hf
    refine lv_icmp_ne (tgt := 27) hx hb dX5_fits_20 (by decide) (fun c1 => ?_) (fun c1 => ?_)
    · replace hf := ite_f c1 hf
      refine lv_iconst (v := 0) hx hb dX5_fits_27 (by decide) ?_
      exact wk_zret S hr hlk hK hN hH rfl hf dX5_fits_28
    · replace hf := ite_t c1 hf
      refine lv_iconst (v := 1) hx hb dX5_fits_23 (by decide) ?_
      refine lv_goto (tgt := 28) hx hb dX5_fits_24 (by decide) ?_
      exact wk_zret S hr hlk hK hN hH rfl hf dX5_fits_28
  intro H locs ls hl hH
  replace hl : lv_has ls 2 [(0, .int a0), (1, .int a1)] := hl
  unfold f_X5_fits at hf
  refine lv_iload_n hx hb dX5_fits_0 rfl (lv_at hl 0 rfl) ?_
  refine lv_bipush (v := 6) hx hb dX5_fits_1 (by decide) ?_
  refine lv_icmp_ne (tgt := 8) hx hb dX5_fits_3 (by decide) (fun c2 => ?_) (fun c2 => ?_)
  · replace hf := ite_f c2 hf
    refine lv_iload_n hx hb dX5_fits_8 rfl (lv_at hl 1 rfl) ?_
    refine lv_iload_n hx hb dX5_fits_9 rfl (lv_at hl 0 rfl) ?_
    refine lv_bipush (v := 7) hx hb dX5_fits_10 (by decide) ?_
    refine lv_icmp_ne (tgt := 19) hx hb dX5_fits_12 (by decide) (fun c3 => ?_) (fun c3 => ?_)
    · replace hf := ite_f c3 hf
      refine lv_iload_n hx hb dX5_fits_19 rfl (lv_at hl 0 rfl) ?_
      exact B20 _ _ _ hf H locs ls (lv_sub hl [] rfl) hH
    · replace hf := ite_t c3 hf
      refine lv_iconst (v := 0) hx hb dX5_fits_15 (by decide) ?_
      refine lv_goto (tgt := 20) hx hb dX5_fits_16 (by decide) ?_
      exact B20 _ _ _ hf H locs ls (lv_sub hl [] rfl) hH
  · replace hf := ite_t c2 hf
    refine lv_iconst (v := 1) hx hb dX5_fits_6 (by decide) ?_
    exact wk_zret S hr hlk hK hN hH rfl hf dX5_fits_7
set_option maxHeartbeats 4000000 in
set_option maxRecDepth 100000 in
theorem C_X4_goOver (l : Launch) (X : Cx) (hI : Inj X) {a0 : Nat} (t0 : tY a0 = 4) (a1 : Int32) (a2 : Int32) (h : Hp) (r0 : Int32) (h0 : Hp) (hf : f_X4_goOver a0 a1 a2 h = some (r0, h0)) : Mi l X yX4_goOver cX4_goOver 12 (some .int) 1 22 h [.ref (X.2.2.2 a0), .int a1, .int a2] r0 h0 := by
  refine BD_of (own := RX4) hI rfl (by decide) (Nat.le_of_ble_eq_true rfl) ?_
  intro p e s m args below meth c S hr hlk hK hN
  obtain ⟨hx, hb, hml, hown, hts⟩ := id S
  have B132 : ∀ (k22 : Int32 → Int32 → Int32 → Int32 → Int32 → Int32 → Hp → Option (Int32 × Hp)) (hk22 : ∀ (x3 : Int32) (x4 : Int32) (x5 : Int32) (x6 : Int32) (x7 : Int32) (x8 : Int32) (h : Hp), k22 x3 x4 x5 x6 x7 x8 h = some (r0, h0) → BK p l e ({ frames := 1, cells := 0, slots := 0, locals := 22 }) s m args below meth c (MQ below (cQi X r0 h0) args s 0 0 (AD X)) X 12 22 [(0, .ref (X.2.2.2 a0)), (1, .int a1), (3, .int x3), (4, .int x4), (5, .int x5), (6, .int x6), (7, .int x7), (8, .int x8)] [] h) (x3 : Int32) (x4 : Int32) (x5 : Int32) (x7 : Int32) (x8 : Int32) (x9 : Int32) (h : Hp), g_X4_goOver_132 a0 a1 a2 k22 x3 x4 x5 x7 x8 x9 h = some (r0, h0) → BK p l e ({ frames := 1, cells := 0, slots := 0, locals := 22 }) s m args below meth c (MQ below (cQi X r0 h0) args s 0 0 (AD X)) X 12 132 [(0, .ref (X.2.2.2 a0)), (1, .int a1), (3, .int x3), (4, .int x4), (5, .int x5), (7, .int x7), (8, .int x8), (9, .int x9)] [] h := by
    intro k22 hk22 x3 x4 x5 x7 x8 x9 h hf H locs ls hl hH
    unfold g_X4_goOver_132 at hf
    refine lv_iload hx hb dX4_goOver_132 (lv_at hl 7 rfl) ?_
    refine lv_istore (lv' := [(6, .int x9), (0, .ref (X.2.2.2 a0)), (1, .int a1), (3, .int x3), (4, .int x4), (5, .int x5), (7, .int x7), (8, .int x8), (9, .int x9)]) hx hb dX4_goOver_134 hl (by decide) rfl (fun ls hl => ?_)
    refine lv_iinc (v := (x8 + (1 : Int32))) (lv' := [(8, .int ((x8 + (1 : Int32)))), (6, .int x9), (0, .ref (X.2.2.2 a0)), (1, .int a1), (3, .int x3), (4, .int x4), (5, .int x5), (7, .int x7), (9, .int x9)]) hx hb dX4_goOver_136 hl (k := 7) rfl rfl (by decide) rfl (fun ls hl => ?_)
    refine lv_goto (tgt := 22) hx hb dX4_goOver_139 (by decide) ?_
    exact hk22 _ _ _ _ _ _ _ hf H locs ls (lv_sub hl [2, 3, 4, 5, 6, 1, 7, 0] rfl) hH
  have B108 : ∀ (k22 : Int32 → Int32 → Int32 → Int32 → Int32 → Int32 → Hp → Option (Int32 × Hp)) (hk22 : ∀ (x3 : Int32) (x4 : Int32) (x5 : Int32) (x6 : Int32) (x7 : Int32) (x8 : Int32) (h : Hp), k22 x3 x4 x5 x6 x7 x8 h = some (r0, h0) → BK p l e ({ frames := 1, cells := 0, slots := 0, locals := 22 }) s m args below meth c (MQ below (cQi X r0 h0) args s 0 0 (AD X)) X 12 22 [(0, .ref (X.2.2.2 a0)), (1, .int a1), (3, .int x3), (4, .int x4), (5, .int x5), (6, .int x6), (7, .int x7), (8, .int x8)] [] h) (x3 : Int32) (x4 : Int32) (x5 : Int32) (x7 : Int32) (x8 : Int32) (x9 : Int32) (z0 : Int32) (h : Hp), g_X4_goOver_108 a0 a1 a2 k22 x3 x4 x5 x7 x8 x9 z0 h = some (r0, h0) → BK p l e ({ frames := 1, cells := 0, slots := 0, locals := 22 }) s m args below meth c (MQ below (cQi X r0 h0) args s 0 0 (AD X)) X 12 108 [(0, .ref (X.2.2.2 a0)), (1, .int a1), (3, .int x3), (4, .int x4), (5, .int x5), (7, .int x7), (8, .int x8), (9, .int x9)] [.int z0] h := by
    intro k22 hk22 x3 x4 x5 x7 x8 x9 z0 h hf H locs ls hl hH
    unfold g_X4_goOver_108 at hf
    refine lv_istore (lv' := [(11, .int z0), (0, .ref (X.2.2.2 a0)), (1, .int a1), (3, .int x3), (4, .int x4), (5, .int x5), (7, .int x7), (8, .int x8), (9, .int x9)]) hx hb dX4_goOver_108 hl (by decide) rfl (fun ls hl => ?_)
    refine lv_iload hx hb dX4_goOver_110 (lv_at hl 0 rfl) ?_
    refine lv_if_eq (tgt := 132) hx hb dX4_goOver_112 (by decide) (fun c1 => ?_) (fun c1 => ?_)
    · replace hf := ite_t c1 hf
      exact B132 k22 hk22 _ _ _ _ _ _ _ hf H locs ls (lv_sub hl [1, 2, 3, 4, 5, 6, 7, 8] rfl) hH
    · replace hf := ite_f c1 hf
      refine lv_iload hx hb dX4_goOver_115 (lv_at hl 4 rfl) ?_
      refine lv_iload hx hb dX4_goOver_117 (lv_at hl 0 rfl) ?_
      refine lv_iload hx hb dX4_goOver_119 (lv_at hl 5 rfl) ?_
      refine lv_imul hx hb dX4_goOver_121 ?_
      refine lv_iadd hx hb dX4_goOver_122 ?_
      refine lv_istore (lv' := [(4, .int ((x4 + (z0 * x5)))), (11, .int z0), (0, .ref (X.2.2.2 a0)), (1, .int a1), (3, .int x3), (5, .int x5), (7, .int x7), (8, .int x8), (9, .int x9)]) hx hb dX4_goOver_123 hl (by decide) rfl (fun ls hl => ?_)
      refine lv_iload hx hb dX4_goOver_125 (lv_at hl 5 rfl) ?_
      refine lv_bipush (v := 10) hx hb dX4_goOver_127 (by decide) ?_
      refine lv_imul hx hb dX4_goOver_129 ?_
      refine lv_istore (lv' := [(5, .int ((x5 * (10 : Int32)))), (4, .int ((x4 + (z0 * x5)))), (11, .int z0), (0, .ref (X.2.2.2 a0)), (1, .int a1), (3, .int x3), (7, .int x7), (8, .int x8), (9, .int x9)]) hx hb dX4_goOver_130 hl (by decide) rfl (fun ls hl => ?_)
      exact B132 k22 hk22 _ _ _ _ _ _ _ hf H locs ls (lv_sub hl [3, 4, 5, 1, 0, 6, 7, 8] rfl) hH
  have B90 : ∀ (k22 : Int32 → Int32 → Int32 → Int32 → Int32 → Int32 → Hp → Option (Int32 × Hp)) (hk22 : ∀ (x3 : Int32) (x4 : Int32) (x5 : Int32) (x6 : Int32) (x7 : Int32) (x8 : Int32) (h : Hp), k22 x3 x4 x5 x6 x7 x8 h = some (r0, h0) → BK p l e ({ frames := 1, cells := 0, slots := 0, locals := 22 }) s m args below meth c (MQ below (cQi X r0 h0) args s 0 0 (AD X)) X 12 22 [(0, .ref (X.2.2.2 a0)), (1, .int a1), (3, .int x3), (4, .int x4), (5, .int x5), (6, .int x6), (7, .int x7), (8, .int x8)] [] h) (x3 : Int32) (x4 : Int32) (x5 : Int32) (x7 : Int32) (x8 : Int32) (x9 : Int32) (z0 : Int32) (h : Hp), g_X4_goOver_90 a0 a1 a2 k22 x3 x4 x5 x7 x8 x9 z0 h = some (r0, h0) → BK p l e ({ frames := 1, cells := 0, slots := 0, locals := 22 }) s m args below meth c (MQ below (cQi X r0 h0) args s 0 0 (AD X)) X 12 90 [(0, .ref (X.2.2.2 a0)), (1, .int a1), (3, .int x3), (4, .int x4), (5, .int x5), (7, .int x7), (8, .int x8), (9, .int x9)] [.int z0] h := by
    intro k22 hk22 x3 x4 x5 x7 x8 x9 z0 h hf H locs ls hl hH
    unfold g_X4_goOver_90 at hf
    refine lv_istore (lv' := [(10, .int z0), (0, .ref (X.2.2.2 a0)), (1, .int a1), (3, .int x3), (4, .int x4), (5, .int x5), (7, .int x7), (8, .int x8), (9, .int x9)]) hx hb dX4_goOver_90 hl (by decide) rfl (fun ls hl => ?_)
    refine lv_iload hx hb dX4_goOver_92 (lv_at hl 0 rfl) ?_
    refine lv_if_eq (tgt := 106) hx hb dX4_goOver_94 (by decide) (fun c2 => ?_) (fun c2 => ?_)
    · replace hf := ite_t c2 hf
      refine lv_iload hx hb dX4_goOver_106 (lv_at hl 8 rfl) ?_
      exact B108 k22 hk22 _ _ _ _ _ _ _ _ hf H locs ls (lv_sub hl [1, 2, 3, 4, 5, 6, 7, 8] rfl) hH
    · replace hf := ite_f c2 hf
      refine lv_aload_n hx hb dX4_goOver_97 rfl (lv_at hl 1 rfl) ?_
      refine lv_iload_n hx hb dX4_goOver_98 rfl (lv_at hl 2 rfl) ?_
      refine lv_iconst (v := 1) hx hb dX4_goOver_99 (by decide) ?_
      obtain ⟨r5, h4, hq3, hf⟩ := bnd_ok hf
      refine wk_callVi (ci := 4) (b := a0) (As := [.int a1, .int ((1 : Int32))]) (rest := []) S hK hN hH t0 (by decide) rfl (C_X4_signOf l X hI t0 a1 (1 : Int32) _ _ _ hq3) (cwV 2 hts (gV wU_in m_348 m_349 m_350 m_38 m_351) rfl rfl rfl hdV_X4_signOf ⟨Nat.le_of_ble_eq_true rfl, Nat.le_of_ble_eq_true rfl⟩) hl.1 rfl rfl (Nat.le_of_ble_eq_true rfl) dX4_goOver_100 ⟨Nat.zero_le _, Nat.zero_le _⟩ (fun H locs hH => ?_)
      refine lv_goto (tgt := 108) hx hb dX4_goOver_103 (by decide) ?_
      exact B108 k22 hk22 _ _ _ _ _ _ _ _ hf H locs ls (lv_sub hl [1, 2, 3, 4, 5, 6, 7, 8] rfl) hH
  have B89 : ∀ (k22 : Int32 → Int32 → Int32 → Int32 → Int32 → Int32 → Hp → Option (Int32 × Hp)) (hk22 : ∀ (x3 : Int32) (x4 : Int32) (x5 : Int32) (x6 : Int32) (x7 : Int32) (x8 : Int32) (h : Hp), k22 x3 x4 x5 x6 x7 x8 h = some (r0, h0) → BK p l e ({ frames := 1, cells := 0, slots := 0, locals := 22 }) s m args below meth c (MQ below (cQi X r0 h0) args s 0 0 (AD X)) X 12 22 [(0, .ref (X.2.2.2 a0)), (1, .int a1), (3, .int x3), (4, .int x4), (5, .int x5), (6, .int x6), (7, .int x7), (8, .int x8)] [] h) (x3 : Int32) (x4 : Int32) (x5 : Int32) (x7 : Int32) (x8 : Int32) (x9 : Int32) (h : Hp), g_X4_goOver_89 a0 a1 a2 k22 x3 x4 x5 x7 x8 x9 h = some (r0, h0) → BK p l e ({ frames := 1, cells := 0, slots := 0, locals := 22 }) s m args below meth c (MQ below (cQi X r0 h0) args s 0 0 (AD X)) X 12 89 [(0, .ref (X.2.2.2 a0)), (1, .int a1), (3, .int x3), (4, .int x4), (5, .int x5), (7, .int x7), (8, .int x8), (9, .int x9)] [] h := by
    intro k22 hk22 x3 x4 x5 x7 x8 x9 h hf H locs ls hl hH
    unfold g_X4_goOver_89 at hf
    refine lv_iconst (v := 0) hx hb dX4_goOver_89 (by decide) ?_
    exact B90 k22 hk22 _ _ _ _ _ _ _ _ hf H locs ls (lv_sub hl [0, 1, 2, 3, 4, 5, 6, 7] rfl) hH
  have B22 : ∀ (k22 : Int32 → Int32 → Int32 → Int32 → Int32 → Int32 → Hp → Option (Int32 × Hp)) (hk22 : ∀ (x3 : Int32) (x4 : Int32) (x5 : Int32) (x6 : Int32) (x7 : Int32) (x8 : Int32) (h : Hp), k22 x3 x4 x5 x6 x7 x8 h = some (r0, h0) → BK p l e ({ frames := 1, cells := 0, slots := 0, locals := 22 }) s m args below meth c (MQ below (cQi X r0 h0) args s 0 0 (AD X)) X 12 22 [(0, .ref (X.2.2.2 a0)), (1, .int a1), (3, .int x3), (4, .int x4), (5, .int x5), (6, .int x6), (7, .int x7), (8, .int x8)] [] h) (x3 : Int32) (x4 : Int32) (x5 : Int32) (x6 : Int32) (x7 : Int32) (x8 : Int32) (h : Hp), g_X4_goOver_22 a0 a1 a2 k22 x3 x4 x5 x6 x7 x8 h = some (r0, h0) → BK p l e ({ frames := 1, cells := 0, slots := 0, locals := 22 }) s m args below meth c (MQ below (cQi X r0 h0) args s 0 0 (AD X)) X 12 22 [(0, .ref (X.2.2.2 a0)), (1, .int a1), (3, .int x3), (4, .int x4), (5, .int x5), (6, .int x6), (7, .int x7), (8, .int x8)] [] h := by
    intro k22 hk22 x3 x4 x5 x6 x7 x8 h hf H locs ls hl hH
    unfold g_X4_goOver_22 at hf
    refine lv_iload hx hb dX4_goOver_22 (lv_at hl 7 rfl) ?_
    refine lv_bipush (v := 6) hx hb dX4_goOver_24 (by decide) ?_
    refine lv_icmp_ge (tgt := 142) hx hb dX4_goOver_26 (by decide) (fun c6 => ?_) (fun c6 => ?_)
    · replace hf := ite_t c6 hf
      refine lv_iload hx hb dX4_goOver_142 (lv_at hl 3 rfl) ?_
      exact wk_iret S hr hlk hK hN hH hf dX4_goOver_144
    · replace hf := ite_f c6 hf
      refine lv_iload hx hb dX4_goOver_29 (lv_at hl 6 rfl) ?_
      refine lv_if_le (tgt := 142) hx hb dX4_goOver_31 (by decide) (fun c7 => ?_) (fun c7 => ?_)
      · replace hf := ite_t c7 hf
        refine lv_iload hx hb dX4_goOver_142 (lv_at hl 3 rfl) ?_
        exact wk_iret S hr hlk hK hN hH hf dX4_goOver_144
      · replace hf := ite_f c7 hf
        refine lv_iload hx hb dX4_goOver_34 (lv_at hl 6 rfl) ?_
        refine lv_bipush (v := 10) hx hb dX4_goOver_36 (by decide) ?_
        refine lv_irem hx hb dX4_goOver_38 (by decide) ?_
        refine lv_istore (lv' := [(9, .int ((x7 - x7 / (10 : Int32) * (10 : Int32)))), (0, .ref (X.2.2.2 a0)), (1, .int a1), (3, .int x3), (4, .int x4), (5, .int x5), (6, .int x6), (7, .int x7), (8, .int x8)]) hx hb dX4_goOver_39 hl (by decide) rfl (fun ls hl => ?_)
        refine lv_iload hx hb dX4_goOver_41 (lv_at hl 7 rfl) ?_
        refine lv_bipush (v := 10) hx hb dX4_goOver_43 (by decide) ?_
        refine lv_idiv hx hb dX4_goOver_45 (by decide) ?_
        refine lv_istore (lv' := [(7, .int ((x7 / (10 : Int32)))), (9, .int ((x7 - x7 / (10 : Int32) * (10 : Int32)))), (0, .ref (X.2.2.2 a0)), (1, .int a1), (3, .int x3), (4, .int x4), (5, .int x5), (6, .int x6), (8, .int x8)]) hx hb dX4_goOver_46 hl (by decide) rfl (fun ls hl => ?_)
        refine lv_iload hx hb dX4_goOver_48 (lv_at hl 1 rfl) ?_
        refine lv_iload_n hx hb dX4_goOver_50 rfl (lv_at hl 4 rfl) ?_
        refine lv_icmp_ne (tgt := 89) hx hb dX4_goOver_51 (by decide) (fun c8 => ?_) (fun c8 => ?_)
        · replace hf := ite_f c8 hf
          exact B89 k22 hk22 _ _ _ _ _ _ _ hf H locs ls (lv_sub hl [2, 3, 4, 5, 6, 0, 8, 1] rfl) hH
        · replace hf := ite_t c8 hf
          refine lv_aload_n hx hb dX4_goOver_54 rfl (lv_at hl 2 rfl) ?_
          refine lv_iload_n hx hb dX4_goOver_55 rfl (lv_at hl 3 rfl) ?_
          refine lv_iconst (v := 2) hx hb dX4_goOver_56 (by decide) ?_
          obtain ⟨r11, h10, hq9, hf⟩ := bnd_ok hf
          refine wk_callVi (ci := 4) (b := a0) (As := [.int a1, .int ((2 : Int32))]) (rest := []) S hK hN hH t0 (by decide) rfl (C_X4_signOf l X hI t0 a1 (2 : Int32) _ _ _ hq9) (cwV 2 hts (gV wU_in m_348 m_349 m_350 m_38 m_351) rfl rfl rfl hdV_X4_signOf ⟨Nat.le_of_ble_eq_true rfl, Nat.le_of_ble_eq_true rfl⟩) hl.1 rfl rfl (Nat.le_of_ble_eq_true rfl) dX4_goOver_57 ⟨Nat.zero_le _, Nat.zero_le _⟩ (fun H locs hH => ?_)
          refine lv_iload hx hb dX4_goOver_60 (lv_at hl 0 rfl) ?_
          refine lv_bipush (v := 10) hx hb dX4_goOver_62 (by decide) ?_
          refine lv_irem hx hb dX4_goOver_64 (by decide) ?_
          obtain ⟨r14, h13, hq12, hf⟩ := bnd_ok hf
          refine wk_callSi (As := [.int r11, .int (((x7 / (10 : Int32)) - (x7 / (10 : Int32)) / (10 : Int32) * (10 : Int32)))]) (rest := []) S hK hN hH (C_X5_fits l X hI r11 ((x7 / (10 : Int32)) - (x7 / (10 : Int32)) / (10 : Int32) * (10 : Int32)) _ _ _ hq12) (va_cwS 2 hts (gS wU_in m_352 m_353 m_43 m_354) rfl rfl rfl hdS_X5_fits ⟨Nat.le_of_ble_eq_true rfl, Nat.le_of_ble_eq_true rfl⟩) hl.1 rfl rfl (Nat.le_of_ble_eq_true rfl) dX4_goOver_65 ⟨Nat.zero_le _, Nat.zero_le _⟩ (fun H locs hH => ?_)
          refine lv_if_eq (tgt := 89) hx hb dX4_goOver_68 (by decide) (fun c15 => ?_) (fun c15 => ?_)
          · replace hf := ite_t c15 hf
            exact B89 k22 hk22 _ _ _ _ _ _ _ hf H locs ls (lv_sub hl [2, 3, 4, 5, 6, 0, 8, 1] rfl) hH
          · replace hf := ite_f c15 hf
            refine lv_aload_n hx hb dX4_goOver_71 rfl (lv_at hl 2 rfl) ?_
            refine lv_iload_n hx hb dX4_goOver_72 rfl (lv_at hl 3 rfl) ?_
            refine lv_iconst (v := 3) hx hb dX4_goOver_73 (by decide) ?_
            obtain ⟨r18, h17, hq16, hf⟩ := bnd_ok hf
            refine wk_callVi (ci := 4) (b := a0) (As := [.int a1, .int ((3 : Int32))]) (rest := []) S hK hN hH t0 (by decide) rfl (C_X4_signOf l X hI t0 a1 (3 : Int32) _ _ _ hq16) (cwV 2 hts (gV wU_in m_348 m_349 m_350 m_38 m_351) rfl rfl rfl hdV_X4_signOf ⟨Nat.le_of_ble_eq_true rfl, Nat.le_of_ble_eq_true rfl⟩) hl.1 rfl rfl (Nat.le_of_ble_eq_true rfl) dX4_goOver_74 ⟨Nat.zero_le _, Nat.zero_le _⟩ (fun H locs hH => ?_)
            refine lv_iload hx hb dX4_goOver_77 (lv_at hl 7 rfl) ?_
            obtain ⟨r21, h20, hq19, hf⟩ := bnd_ok hf
            refine wk_callSi (As := [.int r18, .int x6]) (rest := []) S hK hN hH (C_X5_fits l X hI r18 x6 _ _ _ hq19) (va_cwS 2 hts (gS wU_in m_352 m_353 m_43 m_354) rfl rfl rfl hdS_X5_fits ⟨Nat.le_of_ble_eq_true rfl, Nat.le_of_ble_eq_true rfl⟩) hl.1 rfl rfl (Nat.le_of_ble_eq_true rfl) dX4_goOver_79 ⟨Nat.zero_le _, Nat.zero_le _⟩ (fun H locs hH => ?_)
            refine lv_if_eq (tgt := 89) hx hb dX4_goOver_82 (by decide) (fun c22 => ?_) (fun c22 => ?_)
            · replace hf := ite_t c22 hf
              exact B89 k22 hk22 _ _ _ _ _ _ _ hf H locs ls (lv_sub hl [2, 3, 4, 5, 6, 0, 8, 1] rfl) hH
            · replace hf := ite_f c22 hf
              refine lv_iconst (v := 1) hx hb dX4_goOver_85 (by decide) ?_
              refine lv_goto (tgt := 90) hx hb dX4_goOver_86 (by decide) ?_
              exact B90 k22 hk22 _ _ _ _ _ _ _ _ hf H locs ls (lv_sub hl [2, 3, 4, 5, 6, 0, 8, 1] rfl) hH
  have BL22 : ∀ (n : Nat) (x3 : Int32) (x4 : Int32) (x5 : Int32) (x6 : Int32) (x7 : Int32) (x8 : Int32) (h : Hp), f_X4_goOver_22 a0 a1 a2 n x3 x4 x5 x6 x7 x8 h = some (r0, h0) → BK p l e ({ frames := 1, cells := 0, slots := 0, locals := 22 }) s m args below meth c (MQ below (cQi X r0 h0) args s 0 0 (AD X)) X 12 22 [(0, .ref (X.2.2.2 a0)), (1, .int a1), (3, .int x3), (4, .int x4), (5, .int x5), (6, .int x6), (7, .int x7), (8, .int x8)] [] h := by
    intro n
    induction n with
    | zero => intro x3 x4 x5 x6 x7 x8 h hf; cases hf
    | succ n ih => intro x3 x4 x5 x6 x7 x8 h hf; exact B22 _ ih _ _ _ _ _ _ _ hf
  intro H locs ls hl hH
  replace hl : lv_has ls 12 [(0, .ref (X.2.2.2 a0)), (1, .int a1), (2, .int a2)] := hl
  unfold f_X4_goOver at hf
  refine lv_aload_n hx hb dX4_goOver_0 rfl (lv_at hl 0 rfl) ?_
  refine lv_iload_n hx hb dX4_goOver_1 rfl (lv_at hl 1 rfl) ?_
  refine lv_iconst (v := 0) hx hb dX4_goOver_2 (by decide) ?_
  obtain ⟨r25, h24, hq23, hf⟩ := bnd_ok hf
  refine wk_callVi (ci := 4) (b := a0) (As := [.int a1, .int ((0 : Int32))]) (rest := []) S hK hN hH t0 (by decide) rfl (C_X4_signOf l X hI t0 a1 (0 : Int32) _ _ _ hq23) (cwV 2 hts (gV wU_in m_348 m_349 m_350 m_38 m_351) rfl rfl rfl hdV_X4_signOf ⟨Nat.le_of_ble_eq_true rfl, Nat.le_of_ble_eq_true rfl⟩) hl.1 rfl rfl (Nat.le_of_ble_eq_true rfl) dX4_goOver_3 ⟨Nat.zero_le _, Nat.zero_le _⟩ (fun H locs hH => ?_)
  refine lv_istore_n (lv' := [(3, .int r25), (0, .ref (X.2.2.2 a0)), (1, .int a1), (2, .int a2)]) hx hb dX4_goOver_6 rfl hl (by decide) rfl (fun ls hl => ?_)
  refine lv_iconst (v := 0) hx hb dX4_goOver_7 (by decide) ?_
  refine lv_istore (lv' := [(4, .int ((0 : Int32))), (3, .int r25), (0, .ref (X.2.2.2 a0)), (1, .int a1), (2, .int a2)]) hx hb dX4_goOver_8 hl (by decide) rfl (fun ls hl => ?_)
  refine lv_iconst (v := 1) hx hb dX4_goOver_10 (by decide) ?_
  refine lv_istore (lv' := [(5, .int ((1 : Int32))), (4, .int ((0 : Int32))), (3, .int r25), (0, .ref (X.2.2.2 a0)), (1, .int a1), (2, .int a2)]) hx hb dX4_goOver_11 hl (by decide) rfl (fun ls hl => ?_)
  refine lv_iconst (v := 0) hx hb dX4_goOver_13 (by decide) ?_
  refine lv_istore (lv' := [(6, .int ((0 : Int32))), (5, .int ((1 : Int32))), (4, .int ((0 : Int32))), (3, .int r25), (0, .ref (X.2.2.2 a0)), (1, .int a1), (2, .int a2)]) hx hb dX4_goOver_14 hl (by decide) rfl (fun ls hl => ?_)
  refine lv_iload_n hx hb dX4_goOver_16 rfl (lv_at hl 6 rfl) ?_
  refine lv_istore (lv' := [(7, .int a2), (6, .int ((0 : Int32))), (5, .int ((1 : Int32))), (4, .int ((0 : Int32))), (3, .int r25), (0, .ref (X.2.2.2 a0)), (1, .int a1), (2, .int a2)]) hx hb dX4_goOver_17 hl (by decide) rfl (fun ls hl => ?_)
  refine lv_iconst (v := 0) hx hb dX4_goOver_19 (by decide) ?_
  refine lv_istore (lv' := [(8, .int ((0 : Int32))), (7, .int a2), (6, .int ((0 : Int32))), (5, .int ((1 : Int32))), (4, .int ((0 : Int32))), (3, .int r25), (0, .ref (X.2.2.2 a0)), (1, .int a1), (2, .int a2)]) hx hb dX4_goOver_20 hl (by decide) rfl (fun ls hl => ?_)
  exact BL22 FU _ _ _ _ _ _ _ hf H locs ls (lv_sub hl [6, 7, 5, 4, 3, 2, 1, 0] rfl) hH
set_option maxHeartbeats 4000000 in
set_option maxRecDepth 100000 in
theorem C_X4_walk (l : Launch) (X : Cx) (hI : Inj X) {a0 : Nat} (t0 : tY a0 = 4) (a1 : Int32) (a2 : Int32) (h : Hp) (r0 : Int32) (h0 : Hp) (hf : f_X4_walk a0 a1 a2 h = some (r0, h0)) : Mi l X yX4_walk cX4_walk 5 (some .int) 2 53 h [.ref (X.2.2.2 a0), .int a1, .int a2] r0 h0 := by
  refine BD_of (own := RX4) hI rfl (by decide) (Nat.le_of_ble_eq_true rfl) ?_
  intro p e s m args below meth c S hr hlk hK hN
  obtain ⟨hx, hb, hml, hown, hts⟩ := id S
  have B5 : ∀ (k5 : Int32 → Int32 → Hp → Option (Int32 × Hp)) (hk5 : ∀ (x3 : Int32) (x4 : Int32) (h : Hp), k5 x3 x4 h = some (r0, h0) → BK p l e ({ frames := 2, cells := 0, slots := 0, locals := 53 }) s m args below meth c (MQ below (cQi X r0 h0) args s 0 0 (AD X)) X 5 5 [(0, .ref (X.2.2.2 a0)), (2, .int a2), (3, .int x3), (4, .int x4)] [] h) (x3 : Int32) (x4 : Int32) (h : Hp), g_X4_walk_5 a0 a1 a2 k5 x3 x4 h = some (r0, h0) → BK p l e ({ frames := 2, cells := 0, slots := 0, locals := 53 }) s m args below meth c (MQ below (cQi X r0 h0) args s 0 0 (AD X)) X 5 5 [(0, .ref (X.2.2.2 a0)), (2, .int a2), (3, .int x3), (4, .int x4)] [] h := by
    intro k5 hk5 x3 x4 h hf H locs ls hl hH
    unfold g_X4_walk_5 at hf
    refine lv_iload hx hb dX4_walk_5 (lv_at hl 3 rfl) ?_
    refine lv_iload_n hx hb dX4_walk_7 rfl (lv_at hl 1 rfl) ?_
    refine lv_icmp_ge (tgt := 30) hx hb dX4_walk_8 (by decide) (fun c1 => ?_) (fun c1 => ?_)
    · replace hf := ite_t c1 hf
      refine lv_iload_n hx hb dX4_walk_30 rfl (lv_at hl 2 rfl) ?_
      exact wk_iret S hr hlk hK hN hH hf dX4_walk_31
    · replace hf := ite_f c1 hf
      refine lv_aload_n hx hb dX4_walk_11 rfl (lv_at hl 0 rfl) ?_
      refine lv_aload_n hx hb dX4_walk_12 rfl (lv_at hl 0 rfl) ?_
      refine wk_getr (ci := 4) (k := 2) S hK hH j_X4 t0 rfl hq_4_2 (hts _ (wU_in _ m_145)) dX4_walk_13 ?_
      refine lv_iload hx hb dX4_walk_16 (lv_at hl 3 rfl) ?_
      obtain ⟨o2, hf⟩ := ite_ok hf
      refine wk_iald S hK hH (tr_4_2 t0) o2 dX4_walk_18 ?_
      refine lv_iload_n hx hb dX4_walk_19 rfl (lv_at hl 2 rfl) ?_
      obtain ⟨r5, h4, hq3, hf⟩ := bnd_ok hf
      refine wk_callVi (ci := 4) (b := a0) (As := [.int ((h.1 (rF a0 2) (x4).toNatClampNeg)), .int x3]) (rest := []) S hK hN hH t0 (by decide) rfl (C_X4_goOver l X hI t0 (h.1 (rF a0 2) (x4).toNatClampNeg) x3 _ _ _ hq3) (cwV 2 hts (gV wU_in m_344 m_345 m_346 m_38 m_347) rfl rfl rfl hdV_X4_goOver ⟨Nat.le_of_ble_eq_true rfl, Nat.le_of_ble_eq_true rfl⟩) hl.1 rfl rfl (Nat.le_of_ble_eq_true rfl) dX4_walk_20 ⟨Nat.zero_le _, Nat.zero_le _⟩ (fun H locs hH => ?_)
      refine lv_istore_n (lv' := [(3, .int r5), (0, .ref (X.2.2.2 a0)), (2, .int a2), (4, .int x4)]) hx hb dX4_walk_23 rfl hl (by decide) rfl (fun ls hl => ?_)
      refine lv_iinc (v := (x4 + (1 : Int32))) (lv' := [(4, .int ((x4 + (1 : Int32)))), (3, .int r5), (0, .ref (X.2.2.2 a0)), (2, .int a2)]) hx hb dX4_walk_24 hl (k := 3) rfl rfl (by decide) rfl (fun ls hl => ?_)
      refine lv_goto (tgt := 5) hx hb dX4_walk_27 (by decide) ?_
      exact hk5 _ _ _ hf H locs ls (lv_sub hl [2, 3, 1, 0] rfl) hH
  have BL5 : ∀ (n : Nat) (x3 : Int32) (x4 : Int32) (h : Hp), f_X4_walk_5 a0 a1 a2 n x3 x4 h = some (r0, h0) → BK p l e ({ frames := 2, cells := 0, slots := 0, locals := 53 }) s m args below meth c (MQ below (cQi X r0 h0) args s 0 0 (AD X)) X 5 5 [(0, .ref (X.2.2.2 a0)), (2, .int a2), (3, .int x3), (4, .int x4)] [] h := by
    intro n
    induction n with
    | zero => intro x3 x4 h hf; cases hf
    | succ n ih => intro x3 x4 h hf; exact B5 _ ih _ _ _ hf
  intro H locs ls hl hH
  replace hl : lv_has ls 5 [(0, .ref (X.2.2.2 a0)), (1, .int a1), (2, .int a2)] := hl
  unfold f_X4_walk at hf
  refine lv_iload_n hx hb dX4_walk_0 rfl (lv_at hl 1 rfl) ?_
  refine lv_istore_n (lv' := [(3, .int a1), (0, .ref (X.2.2.2 a0)), (1, .int a1), (2, .int a2)]) hx hb dX4_walk_1 rfl hl (by decide) rfl (fun ls hl => ?_)
  refine lv_iconst (v := 0) hx hb dX4_walk_2 (by decide) ?_
  refine lv_istore (lv' := [(4, .int ((0 : Int32))), (3, .int a1), (0, .ref (X.2.2.2 a0)), (1, .int a1), (2, .int a2)]) hx hb dX4_walk_3 hl (by decide) rfl (fun ls hl => ?_)
  exact BL5 FU _ _ _ hf H locs ls (lv_sub hl [2, 4, 1, 0] rfl) hH
end
