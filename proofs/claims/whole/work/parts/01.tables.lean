-- ===== PART A: goes FIRST, ahead of the names: the tables' words, and 'selects' of the private methods out of them =====
/-- a private method of a class that the tables say can be made, by its rows of tables_1 -/
def lw_okq (q : MethodName × Nat) : Prop := (q.1.cls ≠ "java/lang/invoke/MethodHandle" ∧ q.1.cls ≠ "java/lang/invoke/VarHandle") ∧ Cond.instantiable q.1.cls q.2 ∈ tables_1 ∧ Cond.privateMethod q.1 ∈ tables_1 ∧ Cond.instanceMethod q.1 ∈ tables_1
theorem lw_p0 : lw_okq (⟨"GrainWaves", "found", "(I)I"⟩, 11) := ⟨⟨by decide +kernel, by decide +kernel⟩, List.mem_of_getElem? (i := 21) (by decide +kernel), List.mem_of_getElem? (i := 251) (by decide +kernel), List.mem_of_getElem? (i := 252) (by decide +kernel)⟩
theorem lw_p1 : lw_okq (⟨"GrainWaves", "fine", "(I)I"⟩, 11) := ⟨⟨by decide +kernel, by decide +kernel⟩, List.mem_of_getElem? (i := 21) (by decide +kernel), List.mem_of_getElem? (i := 263) (by decide +kernel), List.mem_of_getElem? (i := 264) (by decide +kernel)⟩
theorem lw_p2 : lw_okq (⟨"GrainWaves", "perform", "(II)Z"⟩, 11) := ⟨⟨by decide +kernel, by decide +kernel⟩, List.mem_of_getElem? (i := 21) (by decide +kernel), List.mem_of_getElem? (i := 430) (by decide +kernel), List.mem_of_getElem? (i := 431) (by decide +kernel)⟩
theorem lw_p3 : lw_okq (⟨"GrainWaves", "placeTold", "(I)I"⟩, 11) := ⟨⟨by decide +kernel, by decide +kernel⟩, List.mem_of_getElem? (i := 21) (by decide +kernel), List.mem_of_getElem? (i := 442) (by decide +kernel), List.mem_of_getElem? (i := 443) (by decide +kernel)⟩
theorem lw_p4 : lw_okq (⟨"GrainWaves", "sendPart", "(LGrainWaves$Wave;LGrainWaves$Wave;II)V"⟩, 11) := ⟨⟨by decide +kernel, by decide +kernel⟩, List.mem_of_getElem? (i := 21) (by decide +kernel), List.mem_of_getElem? (i := 590) (by decide +kernel), List.mem_of_getElem? (i := 591) (by decide +kernel)⟩
theorem lw_p5 : lw_okq (⟨"GrainWaves", "sheetsThere", "()I"⟩, 11) := ⟨⟨by decide +kernel, by decide +kernel⟩, List.mem_of_getElem? (i := 21) (by decide +kernel), List.mem_of_getElem? (i := 780) (by decide +kernel), List.mem_of_getElem? (i := 781) (by decide +kernel)⟩
theorem lw_p6 : lw_okq (⟨"GrainWaves", "wavesLit", "()I"⟩, 11) := ⟨⟨by decide +kernel, by decide +kernel⟩, List.mem_of_getElem? (i := 21) (by decide +kernel), List.mem_of_getElem? (i := 784) (by decide +kernel), List.mem_of_getElem? (i := 785) (by decide +kernel)⟩
theorem lw_p7 : lw_okq (⟨"GrainWaves", "platesOf", "(I)I"⟩, 11) := ⟨⟨by decide +kernel, by decide +kernel⟩, List.mem_of_getElem? (i := 21) (by decide +kernel), List.mem_of_getElem? (i := 792) (by decide +kernel), List.mem_of_getElem? (i := 793) (by decide +kernel)⟩
theorem lw_p8 : lw_okq (⟨"GrainWavesModel", "finding", "(I)I"⟩, 25) := ⟨⟨by decide +kernel, by decide +kernel⟩, List.mem_of_getElem? (i := 800) (by decide +kernel), List.mem_of_getElem? (i := 895) (by decide +kernel), List.mem_of_getElem? (i := 896) (by decide +kernel)⟩
theorem lw_p9 : lw_okq (⟨"GrainWavesModel", "goWay", "(IZ)V"⟩, 25) := ⟨⟨by decide +kernel, by decide +kernel⟩, List.mem_of_getElem? (i := 800) (by decide +kernel), List.mem_of_getElem? (i := 919) (by decide +kernel), List.mem_of_getElem? (i := 920) (by decide +kernel)⟩
theorem lw_p10 : lw_okq (⟨"GrainWavesModel", "isMade", "(I)Z"⟩, 25) := ⟨⟨by decide +kernel, by decide +kernel⟩, List.mem_of_getElem? (i := 800) (by decide +kernel), List.mem_of_getElem? (i := 931) (by decide +kernel), List.mem_of_getElem? (i := 932) (by decide +kernel)⟩
theorem lw_p11 : lw_okq (⟨"GrainWavesModel", "lookItems", "(III)I"⟩, 25) := ⟨⟨by decide +kernel, by decide +kernel⟩, List.mem_of_getElem? (i := 800) (by decide +kernel), List.mem_of_getElem? (i := 942) (by decide +kernel), List.mem_of_getElem? (i := 943) (by decide +kernel)⟩
theorem lw_p12 : lw_okq (⟨"GrainWavesModel", "brightOf", "(II)J"⟩, 25) := ⟨⟨by decide +kernel, by decide +kernel⟩, List.mem_of_getElem? (i := 800) (by decide +kernel), List.mem_of_getElem? (i := 960) (by decide +kernel), List.mem_of_getElem? (i := 961) (by decide +kernel)⟩
theorem lw_p13 : lw_okq (⟨"GrainWavesModel", "readAll", "()V"⟩, 25) := ⟨⟨by decide +kernel, by decide +kernel⟩, List.mem_of_getElem? (i := 800) (by decide +kernel), List.mem_of_getElem? (i := 978) (by decide +kernel), List.mem_of_getElem? (i := 979) (by decide +kernel)⟩
theorem lw_p14 : lw_okq (⟨"GrainWavesModel", "step", "()V"⟩, 25) := ⟨⟨by decide +kernel, by decide +kernel⟩, List.mem_of_getElem? (i := 800) (by decide +kernel), List.mem_of_getElem? (i := 982) (by decide +kernel), List.mem_of_getElem? (i := 983) (by decide +kernel)⟩
theorem lw_p15 : lw_okq (⟨"GrainWavesModel", "byteAt", "(I)I"⟩, 25) := ⟨⟨by decide +kernel, by decide +kernel⟩, List.mem_of_getElem? (i := 800) (by decide +kernel), List.mem_of_getElem? (i := 986) (by decide +kernel), List.mem_of_getElem? (i := 987) (by decide +kernel)⟩
def lw_privs_1 : List (MethodName × Nat) := [(⟨"GrainWaves", "found", "(I)I"⟩, 11), (⟨"GrainWaves", "fine", "(I)I"⟩, 11), (⟨"GrainWaves", "perform", "(II)Z"⟩, 11), (⟨"GrainWaves", "placeTold", "(I)I"⟩, 11), (⟨"GrainWaves", "sendPart", "(LGrainWaves$Wave;LGrainWaves$Wave;II)V"⟩, 11), (⟨"GrainWaves", "sheetsThere", "()I"⟩, 11), (⟨"GrainWaves", "wavesLit", "()I"⟩, 11), (⟨"GrainWaves", "platesOf", "(I)I"⟩, 11), (⟨"GrainWavesModel", "finding", "(I)I"⟩, 25), (⟨"GrainWavesModel", "goWay", "(IZ)V"⟩, 25), (⟨"GrainWavesModel", "isMade", "(I)Z"⟩, 25), (⟨"GrainWavesModel", "lookItems", "(III)I"⟩, 25), (⟨"GrainWavesModel", "brightOf", "(II)J"⟩, 25), (⟨"GrainWavesModel", "readAll", "()V"⟩, 25), (⟨"GrainWavesModel", "step", "()V"⟩, 25), (⟨"GrainWavesModel", "byteAt", "(I)I"⟩, 25)]
theorem lw_r1 : ∀ q ∈ lw_privs_1, lw_okq q := List.forall_mem_cons.mpr ⟨lw_p0, List.forall_mem_cons.mpr ⟨lw_p1, List.forall_mem_cons.mpr ⟨lw_p2, List.forall_mem_cons.mpr ⟨lw_p3, List.forall_mem_cons.mpr ⟨lw_p4, List.forall_mem_cons.mpr ⟨lw_p5, List.forall_mem_cons.mpr ⟨lw_p6, List.forall_mem_cons.mpr ⟨lw_p7, List.forall_mem_cons.mpr ⟨lw_p8, List.forall_mem_cons.mpr ⟨lw_p9, List.forall_mem_cons.mpr ⟨lw_p10, List.forall_mem_cons.mpr ⟨lw_p11, List.forall_mem_cons.mpr ⟨lw_p12, List.forall_mem_cons.mpr ⟨lw_p13, List.forall_mem_cons.mpr ⟨lw_p14, List.forall_mem_cons.mpr ⟨lw_p15, fun _ h => absurd h List.not_mem_nil⟩⟩⟩⟩⟩⟩⟩⟩⟩⟩⟩⟩⟩⟩⟩⟩
theorem lw_p16 : lw_okq (⟨"GrainWavesModel", "readAct", "()V"⟩, 25) := ⟨⟨by decide +kernel, by decide +kernel⟩, List.mem_of_getElem? (i := 800) (by decide +kernel), List.mem_of_getElem? (i := 996) (by decide +kernel), List.mem_of_getElem? (i := 997) (by decide +kernel)⟩
theorem lw_p17 : lw_okq (⟨"GrainWavesModel", "word", "()J"⟩, 25) := ⟨⟨by decide +kernel, by decide +kernel⟩, List.mem_of_getElem? (i := 800) (by decide +kernel), List.mem_of_getElem? (i := 1000) (by decide +kernel), List.mem_of_getElem? (i := 1001) (by decide +kernel)⟩
theorem lw_p18 : lw_okq (⟨"GrainWavesModel", "must", "(Z)V"⟩, 25) := ⟨⟨by decide +kernel, by decide +kernel⟩, List.mem_of_getElem? (i := 800) (by decide +kernel), List.mem_of_getElem? (i := 1011) (by decide +kernel), List.mem_of_getElem? (i := 1012) (by decide +kernel)⟩
theorem lw_p19 : lw_okq (⟨"GrainWavesModel", "bad", "(I)V"⟩, 25) := ⟨⟨by decide +kernel, by decide +kernel⟩, List.mem_of_getElem? (i := 800) (by decide +kernel), List.mem_of_getElem? (i := 1015) (by decide +kernel), List.mem_of_getElem? (i := 1016) (by decide +kernel)⟩
theorem lw_p20 : lw_okq (⟨"GrainWavesModel", "numberTo", "(I)I"⟩, 25) := ⟨⟨by decide +kernel, by decide +kernel⟩, List.mem_of_getElem? (i := 800) (by decide +kernel), List.mem_of_getElem? (i := 1019) (by decide +kernel), List.mem_of_getElem? (i := 1020) (by decide +kernel)⟩
theorem lw_p21 : lw_okq (⟨"GrainWavesModel", "act", "(JIIIII)V"⟩, 25) := ⟨⟨by decide +kernel, by decide +kernel⟩, List.mem_of_getElem? (i := 800) (by decide +kernel), List.mem_of_getElem? (i := 1023) (by decide +kernel), List.mem_of_getElem? (i := 1024) (by decide +kernel)⟩
theorem lw_p22 : lw_okq (⟨"GrainWavesModel", "asItIs", "(I)V"⟩, 25) := ⟨⟨by decide +kernel, by decide +kernel⟩, List.mem_of_getElem? (i := 800) (by decide +kernel), List.mem_of_getElem? (i := 1027) (by decide +kernel), List.mem_of_getElem? (i := 1028) (by decide +kernel)⟩
theorem lw_p23 : lw_okq (⟨"GrainWavesModel", "lookAt", "(I)I"⟩, 25) := ⟨⟨by decide +kernel, by decide +kernel⟩, List.mem_of_getElem? (i := 800) (by decide +kernel), List.mem_of_getElem? (i := 1049) (by decide +kernel), List.mem_of_getElem? (i := 1050) (by decide +kernel)⟩
theorem lw_p24 : lw_okq (⟨"GrainWavesModel", "sends", "(II)J"⟩, 25) := ⟨⟨by decide +kernel, by decide +kernel⟩, List.mem_of_getElem? (i := 800) (by decide +kernel), List.mem_of_getElem? (i := 1064) (by decide +kernel), List.mem_of_getElem? (i := 1065) (by decide +kernel)⟩
theorem lw_p25 : lw_okq (⟨"GrainWavesModel", "lostOn", "(I)I"⟩, 25) := ⟨⟨by decide +kernel, by decide +kernel⟩, List.mem_of_getElem? (i := 800) (by decide +kernel), List.mem_of_getElem? (i := 1077) (by decide +kernel), List.mem_of_getElem? (i := 1078) (by decide +kernel)⟩
theorem lw_p26 : lw_okq (⟨"GrainWavesModel", "isFit", "(III)Z"⟩, 25) := ⟨⟨by decide +kernel, by decide +kernel⟩, List.mem_of_getElem? (i := 800) (by decide +kernel), List.mem_of_getElem? (i := 1092) (by decide +kernel), List.mem_of_getElem? (i := 1093) (by decide +kernel)⟩
theorem lw_p27 : lw_okq (⟨"GrainWavesModel", "sumOf", "(II)I"⟩, 25) := ⟨⟨by decide +kernel, by decide +kernel⟩, List.mem_of_getElem? (i := 800) (by decide +kernel), List.mem_of_getElem? (i := 1101) (by decide +kernel), List.mem_of_getElem? (i := 1102) (by decide +kernel)⟩
theorem lw_p28 : lw_okq (⟨"GrainWavesModel", "kindOf", "(I)I"⟩, 25) := ⟨⟨by decide +kernel, by decide +kernel⟩, List.mem_of_getElem? (i := 800) (by decide +kernel), List.mem_of_getElem? (i := 1114) (by decide +kernel), List.mem_of_getElem? (i := 1115) (by decide +kernel)⟩
theorem lw_p29 : lw_okq (⟨"GrainWavesModel", "markOf", "(II)I"⟩, 25) := ⟨⟨by decide +kernel, by decide +kernel⟩, List.mem_of_getElem? (i := 800) (by decide +kernel), List.mem_of_getElem? (i := 1130) (by decide +kernel), List.mem_of_getElem? (i := 1131) (by decide +kernel)⟩
theorem lw_p30 : lw_okq (⟨"GrainWavesModel", "began", "(I)V"⟩, 25) := ⟨⟨by decide +kernel, by decide +kernel⟩, List.mem_of_getElem? (i := 800) (by decide +kernel), List.mem_of_getElem? (i := 1134) (by decide +kernel), List.mem_of_getElem? (i := 1135) (by decide +kernel)⟩
theorem lw_p31 : lw_okq (⟨"GrainWavesModel", "clearSize", "(II)I"⟩, 25) := ⟨⟨by decide +kernel, by decide +kernel⟩, List.mem_of_getElem? (i := 800) (by decide +kernel), List.mem_of_getElem? (i := 1138) (by decide +kernel), List.mem_of_getElem? (i := 1139) (by decide +kernel)⟩
def lw_privs_2 : List (MethodName × Nat) := [(⟨"GrainWavesModel", "readAct", "()V"⟩, 25), (⟨"GrainWavesModel", "word", "()J"⟩, 25), (⟨"GrainWavesModel", "must", "(Z)V"⟩, 25), (⟨"GrainWavesModel", "bad", "(I)V"⟩, 25), (⟨"GrainWavesModel", "numberTo", "(I)I"⟩, 25), (⟨"GrainWavesModel", "act", "(JIIIII)V"⟩, 25), (⟨"GrainWavesModel", "asItIs", "(I)V"⟩, 25), (⟨"GrainWavesModel", "lookAt", "(I)I"⟩, 25), (⟨"GrainWavesModel", "sends", "(II)J"⟩, 25), (⟨"GrainWavesModel", "lostOn", "(I)I"⟩, 25), (⟨"GrainWavesModel", "isFit", "(III)Z"⟩, 25), (⟨"GrainWavesModel", "sumOf", "(II)I"⟩, 25), (⟨"GrainWavesModel", "kindOf", "(I)I"⟩, 25), (⟨"GrainWavesModel", "markOf", "(II)I"⟩, 25), (⟨"GrainWavesModel", "began", "(I)V"⟩, 25), (⟨"GrainWavesModel", "clearSize", "(II)I"⟩, 25)]
theorem lw_r2 : ∀ q ∈ lw_privs_2, lw_okq q := List.forall_mem_cons.mpr ⟨lw_p16, List.forall_mem_cons.mpr ⟨lw_p17, List.forall_mem_cons.mpr ⟨lw_p18, List.forall_mem_cons.mpr ⟨lw_p19, List.forall_mem_cons.mpr ⟨lw_p20, List.forall_mem_cons.mpr ⟨lw_p21, List.forall_mem_cons.mpr ⟨lw_p22, List.forall_mem_cons.mpr ⟨lw_p23, List.forall_mem_cons.mpr ⟨lw_p24, List.forall_mem_cons.mpr ⟨lw_p25, List.forall_mem_cons.mpr ⟨lw_p26, List.forall_mem_cons.mpr ⟨lw_p27, List.forall_mem_cons.mpr ⟨lw_p28, List.forall_mem_cons.mpr ⟨lw_p29, List.forall_mem_cons.mpr ⟨lw_p30, List.forall_mem_cons.mpr ⟨lw_p31, fun _ h => absurd h List.not_mem_nil⟩⟩⟩⟩⟩⟩⟩⟩⟩⟩⟩⟩⟩⟩⟩⟩
theorem lw_p32 : lw_okq (⟨"GrainWavesModel", "tornSize", "(II)I"⟩, 25) := ⟨⟨by decide +kernel, by decide +kernel⟩, List.mem_of_getElem? (i := 800) (by decide +kernel), List.mem_of_getElem? (i := 1142) (by decide +kernel), List.mem_of_getElem? (i := 1143) (by decide +kernel)⟩
def lw_privs_3 : List (MethodName × Nat) := [(⟨"GrainWavesModel", "tornSize", "(II)I"⟩, 25)]
theorem lw_r3 : ∀ q ∈ lw_privs_3, lw_okq q := List.forall_mem_cons.mpr ⟨lw_p32, fun _ h => absurd h List.not_mem_nil⟩
def lw_privs : List (MethodName × Nat) := lw_privs_1 ++ (lw_privs_2 ++ (lw_privs_3))
def lw_tbl : List Cond := k2_sels lw_privs ++ tables_1
theorem lw_privs_ok : ∀ q ∈ lw_privs, lw_okq q := by
  show ∀ q ∈ lw_privs_1 ++ (lw_privs_2 ++ (lw_privs_3)), lw_okq q
  exact List.forall_mem_append.mpr ⟨lw_r1, List.forall_mem_append.mpr ⟨lw_r2, lw_r3⟩⟩
def RX0 : String := "GrainWaves$Asks"
def TX0 : u_T := fun k => match k with
  | 0 => ("GrainWaves$Asks", "bodies", "[I", true)
  | _ => ("GrainWaves$Asks", "begun", "I", false)
def tyX0 : Nat → FieldType := fun k => match k with
  | 0 => .array .int
  | _ => .int
theorem nmX0 : ∀ a, a < 2 → ∀ b, b < 2 → a ≠ b → (TX0 a).2.1 ≠ (TX0 b).2.1 := by decide +kernel
theorem tyX0_ok : ∀ k, k < 2 → parseFieldDescriptor (TX0 k).2.2.1 = some (tyX0 k) := by decide +kernel
abbrev cX0_init : ByteArray := prog_2_method_1_code
def yX0_init : MethodName := ⟨RX0, "<init>", "()V"⟩
abbrev cX0_forget : ByteArray := prog_2_method_2_code
def yX0_forget : MethodName := ⟨RX0, "forget", "()V"⟩
abbrev cX0_begin : ByteArray := prog_2_method_3_code
def yX0_begin : MethodName := ⟨RX0, "begin", "(I)V"⟩
abbrev cX0_sizeAsked : ByteArray := prog_2_method_4_code
def yX0_sizeAsked : MethodName := ⟨RX0, "sizeAsked", "(LGrainWaves$Plate;I)I"⟩
abbrev cX0_markAsked : ByteArray := prog_2_method_5_code
def yX0_markAsked : MethodName := ⟨RX0, "markAsked", "(LGrainWaves$Plate;I)I"⟩
abbrev cX0_sizeLent : ByteArray := prog_2_method_6_code
def yX0_sizeLent : MethodName := ⟨RX0, "sizeLent", "(LGrainWaves$Plate;)I"⟩
abbrev cX0_sizeOfClear : ByteArray := prog_2_method_7_code
def yX0_sizeOfClear : MethodName := ⟨RX0, "sizeOfClear", "(LGrainWaves$Plate;)I"⟩
abbrev cX0_sizeOfFully : ByteArray := prog_2_method_8_code
def yX0_sizeOfFully : MethodName := ⟨RX0, "sizeOfFully", "(LGrainWaves$Plate;)I"⟩
abbrev cX0_sizeOfTorn : ByteArray := prog_2_method_9_code
def yX0_sizeOfTorn : MethodName := ⟨RX0, "sizeOfTorn", "(LGrainWaves$Plate;I)I"⟩
abbrev cX0_sizeOfBlind : ByteArray := prog_2_method_10_code
def yX0_sizeOfBlind : MethodName := ⟨RX0, "sizeOfBlind", "(LGrainWaves$Plate;I)I"⟩
abbrev cX0_markLent : ByteArray := prog_2_method_11_code
def yX0_markLent : MethodName := ⟨RX0, "markLent", "(LGrainWaves$Plate;)I"⟩
abbrev cX0_markOfClear : ByteArray := prog_2_method_12_code
def yX0_markOfClear : MethodName := ⟨RX0, "markOfClear", "(LGrainWaves$Plate;)I"⟩
abbrev cX0_markOfFully : ByteArray := prog_2_method_13_code
def yX0_markOfFully : MethodName := ⟨RX0, "markOfFully", "(LGrainWaves$Plate;I)I"⟩
abbrev cX0_markOfTorn : ByteArray := prog_2_method_14_code
def yX0_markOfTorn : MethodName := ⟨RX0, "markOfTorn", "(LGrainWaves$Plate;)I"⟩
def RX1 : String := "GrainWaves$Draft"
def TX1 : u_T := fun k => match k with
  | 0 => ("GrainWaves$Draft", "re", "[J", true)
  | _ => ("GrainWaves$Draft", "im", "[J", true)
def tyX1 : Nat → FieldType := fun k => match k with
  | 0 => .array .long
  | _ => .array .long
theorem nmX1 : ∀ a, a < 2 → ∀ b, b < 2 → a ≠ b → (TX1 a).2.1 ≠ (TX1 b).2.1 := by decide +kernel
theorem tyX1_ok : ∀ k, k < 2 → parseFieldDescriptor (TX1 k).2.2.1 = some (tyX1 k) := by decide +kernel
abbrev cX1_init : ByteArray := prog_3_method_1_code
def yX1_init : MethodName := ⟨RX1, "<init>", "()V"⟩
abbrev cX1_darken : ByteArray := prog_3_method_2_code
def yX1_darken : MethodName := ⟨RX1, "darken", "()V"⟩
abbrev cX1_start : ByteArray := prog_3_method_3_code
def yX1_start : MethodName := ⟨RX1, "start", "(LGrainWaves$Wave;)V"⟩
abbrev cX1_put : ByteArray := prog_3_method_4_code
def yX1_put : MethodName := ⟨RX1, "put", "(IJJ)V"⟩
abbrev cX1_addTurned : ByteArray := prog_3_method_5_code
def yX1_addTurned : MethodName := ⟨RX1, "addTurned", "(IJJI)V"⟩
abbrev cX1_addPlane : ByteArray := prog_3_method_6_code
def yX1_addPlane : MethodName := ⟨RX1, "addPlane", "(IIII)V"⟩
abbrev cX1_addWave : ByteArray := prog_3_method_7_code
def yX1_addWave : MethodName := ⟨RX1, "addWave", "(LGrainWaves$Wave;)V"⟩
abbrev cX1_turn : ByteArray := prog_3_method_8_code
def yX1_turn : MethodName := ⟨RX1, "turn", "(II)V"⟩
abbrev cX1_sendOn : ByteArray := prog_3_method_9_code
def yX1_sendOn : MethodName := ⟨RX1, "sendOn", "(LGrainWaves$Wave;I)V"⟩
abbrev cX1_shareBySixteen : ByteArray := prog_3_method_10_code
def yX1_shareBySixteen : MethodName := ⟨RX1, "shareBySixteen", "()Z"⟩
abbrev cX1_settle : ByteArray := prog_3_method_11_code
def yX1_settle : MethodName := ⟨RX1, "settle", "(LGrainWaves$Wave;)Z"⟩
def RX2 : String := "GrainWaves$Marks"
def TX2 : u_T := fun k => match k with
  | 0 => ("GrainWaves$Marks", "lower", "[I", true)
  | 1 => ("GrainWaves$Marks", "upper", "[I", true)
  | _ => ("GrainWaves$Marks", "spare", "[I", true)
def tyX2 : Nat → FieldType := fun k => match k with
  | 0 => .array .int
  | 1 => .array .int
  | _ => .array .int
theorem nmX2 : ∀ a, a < 3 → ∀ b, b < 3 → a ≠ b → (TX2 a).2.1 ≠ (TX2 b).2.1 := by decide +kernel
theorem tyX2_ok : ∀ k, k < 3 → parseFieldDescriptor (TX2 k).2.2.1 = some (tyX2 k) := by decide +kernel
abbrev cX2_init : ByteArray := prog_4_method_1_code
def yX2_init : MethodName := ⟨RX2, "<init>", "()V"⟩
abbrev cX2_howManyReach : ByteArray := prog_4_method_2_code
def yX2_howManyReach : MethodName := ⟨RX2, "howManyReach", "(LGrainWaves$Plate;I)I"⟩
abbrev cX2_sumUp : ByteArray := prog_4_method_3_code
def yX2_sumUp : MethodName := ⟨RX2, "sumUp", "(LGrainWaves$Plate;I[I)V"⟩
abbrev cX2_merge : ByteArray := prog_4_method_4_code
def yX2_merge : MethodName := ⟨RX2, "merge", "([III)V"⟩
def RX3 : String := "GrainWaves$Plate"
def TX3 : u_T := fun k => match k with
  | 0 => ("GrainWaves$Plate", "grains", "[I", true)
  | 1 => ("GrainWaves$Plate", "lostSet", "I", false)
  | _ => ("GrainWaves$Plate", "step", "I", false)
def tyX3 : Nat → FieldType := fun k => match k with
  | 0 => .array .int
  | 1 => .int
  | _ => .int
theorem nmX3 : ∀ a, a < 3 → ∀ b, b < 3 → a ≠ b → (TX3 a).2.1 ≠ (TX3 b).2.1 := by decide +kernel
theorem tyX3_ok : ∀ k, k < 3 → parseFieldDescriptor (TX3 k).2.2.1 = some (tyX3 k) := by decide +kernel
abbrev cX3_init : ByteArray := prog_5_method_1_code
def yX3_init : MethodName := ⟨RX3, "<init>", "()V"⟩
abbrev cX3_isMissing : ByteArray := prog_5_method_2_code
def yX3_isMissing : MethodName := ⟨RX3, "isMissing", "()Z"⟩
abbrev cX3_keepFringes : ByteArray := prog_5_method_3_code
def yX3_keepFringes : MethodName := ⟨RX3, "keepFringes", "(LGrainWaves$Wave;LGrainWaves$Wave;I)V"⟩
abbrev cX3_loseGrain : ByteArray := prog_5_method_4_code
def yX3_loseGrain : MethodName := ⟨RX3, "loseGrain", "(I)V"⟩
abbrev cX3_told : ByteArray := prog_5_method_5_code
def yX3_told : MethodName := ⟨RX3, "told", "(I)I"⟩
abbrev cX3_whiteOnes : ByteArray := prog_5_method_6_code
def yX3_whiteOnes : MethodName := ⟨RX3, "whiteOnes", "()I"⟩
abbrev cX3_lostOnes : ByteArray := prog_5_method_7_code
def yX3_lostOnes : MethodName := ⟨RX3, "lostOnes", "()I"⟩
abbrev cX3_weight : ByteArray := prog_5_method_8_code
def yX3_weight : MethodName := ⟨RX3, "weight", "(I)J"⟩
abbrev cX3_totalWithin : ByteArray := prog_5_method_9_code
def yX3_totalWithin : MethodName := ⟨RX3, "totalWithin", "(I)I"⟩
abbrev cX3_greatest : ByteArray := prog_5_method_10_code
def yX3_greatest : MethodName := ⟨RX3, "greatest", "()I"⟩
abbrev cX3_kindTold : ByteArray := prog_5_method_11_code
def yX3_kindTold : MethodName := ⟨RX3, "kindTold", "()I"⟩
abbrev cX3_isOf : ByteArray := prog_5_method_12_code
def yX3_isOf : MethodName := ⟨RX3, "isOf", "(I)Z"⟩
abbrev cX3_kindAbove : ByteArray := prog_5_method_13_code
def yX3_kindAbove : MethodName := ⟨RX3, "kindAbove", "(I)I"⟩
def RX4 : String := "GrainWaves$Rows"
def TX4 : u_T := fun k => match k with
  | 0 => ("GrainWaves$Rows", "turns", "[I", true)
  | _ => ("GrainWaves$Rows", "number", "I", false)
def tyX4 : Nat → FieldType := fun k => match k with
  | 0 => .array .int
  | _ => .int
theorem nmX4 : ∀ a, a < 2 → ∀ b, b < 2 → a ≠ b → (TX4 a).2.1 ≠ (TX4 b).2.1 := by decide +kernel
theorem tyX4_ok : ∀ k, k < 2 → parseFieldDescriptor (TX4 k).2.2.1 = some (tyX4 k) := by decide +kernel
abbrev cX4_init : ByteArray := prog_6_method_1_code
def yX4_init : MethodName := ⟨RX4, "<init>", "()V"⟩
abbrev cX4_pick : ByteArray := prog_6_method_2_code
def yX4_pick : MethodName := ⟨RX4, "pick", "(I[III)I"⟩
abbrev cX4_howMany : ByteArray := prog_6_method_3_code
def yX4_howMany : MethodName := ⟨RX4, "howMany", "(I[IIZ)I"⟩
abbrev cX4_choices : ByteArray := prog_6_method_4_code
def yX4_choices : MethodName := ⟨RX4, "choices", "(I)I"⟩
abbrev cX4_spread : ByteArray := prog_6_method_5_code
def yX4_spread : MethodName := ⟨RX4, "spread", "(II)V"⟩
abbrev cX4_sends : ByteArray := prog_6_method_6_code
def yX4_sends : MethodName := ⟨RX4, "sends", "([II)Z"⟩
abbrev cX4_farBright : ByteArray := prog_6_method_7_code
def yX4_farBright : MethodName := ⟨RX4, "farBright", "(I)I"⟩
def RX5 : String := "GrainWaves$Script"
def TX5 : u_T := fun k => match k with
  | 0 => ("GrainWaves$Script", "verbs", "[I", true)
  | 1 => ("GrainWaves$Script", "numbers", "[I", true)
  | 2 => ("GrainWaves$Script", "acts", "I", false)
  | 3 => ("GrainWaves$Script", "faultNumber", "I", false)
  | _ => ("GrainWaves$Script", "faultPlace", "I", false)
def tyX5 : Nat → FieldType := fun k => match k with
  | 0 => .array .int
  | 1 => .array .int
  | 2 => .int
  | 3 => .int
  | _ => .int
theorem nmX5 : ∀ a, a < 5 → ∀ b, b < 5 → a ≠ b → (TX5 a).2.1 ≠ (TX5 b).2.1 := by decide +kernel
theorem tyX5_ok : ∀ k, k < 5 → parseFieldDescriptor (TX5 k).2.2.1 = some (tyX5 k) := by decide +kernel
abbrev cX5_init : ByteArray := prog_7_method_1_code
def yX5_init : MethodName := ⟨RX5, "<init>", "()V"⟩
abbrev cX5_readAll : ByteArray := prog_7_method_2_code
def yX5_readAll : MethodName := ⟨RX5, "readAll", "(LGrainWaves$Tape;)Z"⟩
abbrev cX5_readAct : ByteArray := prog_7_method_3_code
def yX5_readAct : MethodName := ⟨RX5, "readAct", "(LGrainWaves$Tape;)Z"⟩
abbrev cX5_faulty : ByteArray := prog_7_method_4_code
def yX5_faulty : MethodName := ⟨RX5, "faulty", "(LGrainWaves$Tape;I)Z"⟩
abbrev cX5_verbOf : ByteArray := prog_7_method_5_code
def yX5_verbOf : MethodName := ⟨RX5, "verbOf", "(LGrainWaves$Tape;)I"⟩
abbrev cX5_wordOf : ByteArray := prog_7_method_6_code
def yX5_wordOf : MethodName := ⟨RX5, "wordOf", "(I)Ljava/lang/String;"⟩
abbrev cX5_mostOf : ByteArray := prog_7_method_7_code
def yX5_mostOf : MethodName := ⟨RX5, "mostOf", "(I)[I"⟩
def RX6 : String := "GrainWaves$Sheet"
def TX6 : u_T := fun k => match k with
  | 0 => ("GrainWaves$Sheet", "items", "[I", true)
  | 1 => ("GrainWaves$Sheet", "lane", "I", false)
  | _ => ("GrainWaves$Sheet", "size", "I", false)
def tyX6 : Nat → FieldType := fun k => match k with
  | 0 => .array .int
  | 1 => .int
  | _ => .int
theorem nmX6 : ∀ a, a < 3 → ∀ b, b < 3 → a ≠ b → (TX6 a).2.1 ≠ (TX6 b).2.1 := by decide +kernel
theorem tyX6_ok : ∀ k, k < 3 → parseFieldDescriptor (TX6 k).2.2.1 = some (tyX6 k) := by decide +kernel
abbrev cX6_init : ByteArray := prog_8_method_1_code
def yX6_init : MethodName := ⟨RX6, "<init>", "()V"⟩
abbrev cX6_isMissing : ByteArray := prog_8_method_2_code
def yX6_isMissing : MethodName := ⟨RX6, "isMissing", "()Z"⟩
abbrev cX6_become : ByteArray := prog_8_method_3_code
def yX6_become : MethodName := ⟨RX6, "become", "(II)V"⟩
abbrev cX6_goMissing : ByteArray := prog_8_method_4_code
def yX6_goMissing : MethodName := ⟨RX6, "goMissing", "()V"⟩
abbrev cX6_reaches : ByteArray := prog_8_method_5_code
def yX6_reaches : MethodName := ⟨RX6, "reaches", "(II)Z"⟩
abbrev cX6_cut : ByteArray := prog_8_method_6_code
def yX6_cut : MethodName := ⟨RX6, "cut", "(I)I"⟩
def RX7 : String := "GrainWaves$Tape"
def TX7 : u_T := fun k => match k with
  | 0 => ("GrainWaves$Tape", "bytes", "[B", true)
  | 1 => ("GrainWaves$Tape", "length", "I", false)
  | 2 => ("GrainWaves$Tape", "start", "I", false)
  | 3 => ("GrainWaves$Tape", "end", "I", false)
  | 4 => ("GrainWaves$Tape", "sort", "I", false)
  | _ => ("GrainWaves$Tape", "value", "I", false)
def tyX7 : Nat → FieldType := fun k => match k with
  | 0 => .array .byte
  | 1 => .int
  | 2 => .int
  | 3 => .int
  | 4 => .int
  | _ => .int
theorem nmX7 : ∀ a, a < 6 → ∀ b, b < 6 → a ≠ b → (TX7 a).2.1 ≠ (TX7 b).2.1 := by decide +kernel
theorem tyX7_ok : ∀ k, k < 6 → parseFieldDescriptor (TX7 k).2.2.1 = some (tyX7 k) := by decide +kernel
abbrev cX7_init : ByteArray := prog_9_method_1_code
def yX7_init : MethodName := ⟨RX7, "<init>", "()V"⟩
abbrev cX7_append : ByteArray := prog_9_method_2_code
def yX7_append : MethodName := ⟨RX7, "append", "(JI)Z"⟩
abbrev cX7_empty : ByteArray := prog_9_method_3_code
def yX7_empty : MethodName := ⟨RX7, "empty", "()V"⟩
abbrev cX7_rewind : ByteArray := prog_9_method_4_code
def yX7_rewind : MethodName := ⟨RX7, "rewind", "()V"⟩
abbrev cX7_next : ByteArray := prog_9_method_5_code
def yX7_next : MethodName := ⟨RX7, "next", "()V"⟩
abbrev cX7_takeName : ByteArray := prog_9_method_6_code
def yX7_takeName : MethodName := ⟨RX7, "takeName", "()V"⟩
abbrev cX7_takeNumber : ByteArray := prog_9_method_7_code
def yX7_takeNumber : MethodName := ⟨RX7, "takeNumber", "()V"⟩
abbrev cX7_hasLetter : ByteArray := prog_9_method_8_code
def yX7_hasLetter : MethodName := ⟨RX7, "hasLetter", "(I)Z"⟩
abbrev cX7_hasFigure : ByteArray := prog_9_method_9_code
def yX7_hasFigure : MethodName := ⟨RX7, "hasFigure", "(I)Z"⟩
abbrev cX7_spells : ByteArray := prog_9_method_10_code
def yX7_spells : MethodName := ⟨RX7, "spells", "(Ljava/lang/String;)Z"⟩
def RX8 : String := "GrainWaves$Wave"
def TX8 : u_T := fun k => match k with
  | 0 => ("GrainWaves$Wave", "re", "[I", true)
  | _ => ("GrainWaves$Wave", "im", "[I", true)
def tyX8 : Nat → FieldType := fun k => match k with
  | 0 => .array .int
  | _ => .array .int
theorem nmX8 : ∀ a, a < 2 → ∀ b, b < 2 → a ≠ b → (TX8 a).2.1 ≠ (TX8 b).2.1 := by decide +kernel
theorem tyX8_ok : ∀ k, k < 2 → parseFieldDescriptor (TX8 k).2.2.1 = some (tyX8 k) := by decide +kernel
abbrev cX8_init : ByteArray := prog_10_method_1_code
def yX8_init : MethodName := ⟨RX8, "<init>", "()V"⟩
abbrev cX8_isLit : ByteArray := prog_10_method_2_code
def yX8_isLit : MethodName := ⟨RX8, "isLit", "()Z"⟩
def RX9 : String := "GrainWaves"
def TX9 : u_T := fun k => match k with
  | 0 => ("GrainWaves", "sheets", "[LGrainWaves$Sheet;", true)
  | 1 => ("GrainWaves", "waves", "[LGrainWaves$Wave;", true)
  | 2 => ("GrainWaves", "plates", "[LGrainWaves$Plate;", true)
  | 3 => ("GrainWaves", "draft", "LGrainWaves$Draft;", true)
  | 4 => ("GrainWaves", "tape", "LGrainWaves$Tape;", true)
  | 5 => ("GrainWaves", "script", "LGrainWaves$Script;", true)
  | 6 => ("GrainWaves", "rows", "LGrainWaves$Rows;", true)
  | 7 => ("GrainWaves", "marks", "LGrainWaves$Marks;", true)
  | 8 => ("GrainWaves", "asks", "LGrainWaves$Asks;", true)
  | 9 => ("GrainWaves", "latestFault", "I", false)
  | _ => ("GrainWaves", "latestFinding", "I", false)
def tyX9 : Nat → FieldType := fun k => match k with
  | 0 => .array (.object "GrainWaves$Sheet")
  | 1 => .array (.object "GrainWaves$Wave")
  | 2 => .array (.object "GrainWaves$Plate")
  | 3 => .object "GrainWaves$Draft"
  | 4 => .object "GrainWaves$Tape"
  | 5 => .object "GrainWaves$Script"
  | 6 => .object "GrainWaves$Rows"
  | 7 => .object "GrainWaves$Marks"
  | 8 => .object "GrainWaves$Asks"
  | 9 => .int
  | _ => .int
theorem nmX9 : ∀ a, a < 11 → ∀ b, b < 11 → a ≠ b → (TX9 a).2.1 ≠ (TX9 b).2.1 := by decide +kernel
theorem tyX9_ok : ∀ k, k < 11 → parseFieldDescriptor (TX9 k).2.2.1 = some (tyX9 k) := by decide +kernel
abbrev cX9_init : ByteArray := prog_1_method_1_code
def yX9_init : MethodName := ⟨RX9, "<init>", "()V"⟩
abbrev cX9_sheet : ByteArray := prog_1_method_2_code
def yX9_sheet : MethodName := ⟨RX9, "sheet", "(III)I"⟩
abbrev cX9_set : ByteArray := prog_1_method_3_code
def yX9_set : MethodName := ⟨RX9, "set", "(III)I"⟩
abbrev cX9_copy : ByteArray := prog_1_method_4_code
def yX9_copy : MethodName := ⟨RX9, "copy", "(IIIII)I"⟩
abbrev cX9_drop : ByteArray := prog_1_method_5_code
def yX9_drop : MethodName := ⟨RX9, "drop", "(I)I"⟩
abbrev cX9_feed : ByteArray := prog_1_method_6_code
def yX9_feed : MethodName := ⟨RX9, "feed", "(JI)I"⟩
abbrev cX9_run : ByteArray := prog_1_method_7_code
def yX9_run : MethodName := ⟨RX9, "run", "()I"⟩
abbrev cX9_fault : ByteArray := prog_1_method_8_code
def yX9_fault : MethodName := ⟨RX9, "fault", "()I"⟩
abbrev cX9_way : ByteArray := prog_1_method_9_code
def yX9_way : MethodName := ⟨RX9, "way", "(II)I"⟩
abbrev cX9_lay : ByteArray := prog_1_method_10_code
def yX9_lay : MethodName := ⟨RX9, "lay", "(III)I"⟩
abbrev cX9_part : ByteArray := prog_1_method_11_code
def yX9_part : MethodName := ⟨RX9, "part", "(III)I"⟩
abbrev cX9_bright : ByteArray := prog_1_method_12_code
def yX9_bright : MethodName := ⟨RX9, "bright", "(II)J"⟩
abbrev cX9_moved : ByteArray := prog_1_method_13_code
def yX9_moved : MethodName := ⟨RX9, "moved", "(III)I"⟩
abbrev cX9_take : ByteArray := prog_1_method_14_code
def yX9_take : MethodName := ⟨RX9, "take", "(IIII)I"⟩
abbrev cX9_lose : ByteArray := prog_1_method_15_code
def yX9_lose : MethodName := ⟨RX9, "lose", "(II)I"⟩
abbrev cX9_grain : ByteArray := prog_1_method_16_code
def yX9_grain : MethodName := ⟨RX9, "grain", "(II)I"⟩
abbrev cX9_read : ByteArray := prog_1_method_17_code
def yX9_read : MethodName := ⟨RX9, "read", "(III)I"⟩
abbrev cX9_parts : ByteArray := prog_1_method_18_code
def yX9_parts : MethodName := ⟨RX9, "parts", "(IIII)I"⟩
abbrev cX9_off : ByteArray := prog_1_method_19_code
def yX9_off : MethodName := ⟨RX9, "off", "(II)I"⟩
abbrev cX9_lack : ByteArray := prog_1_method_20_code
def yX9_lack : MethodName := ⟨RX9, "lack", "(III)J"⟩
abbrev cX9_fits : ByteArray := prog_1_method_21_code
def yX9_fits : MethodName := ⟨RX9, "fits", "(IIII)I"⟩
abbrev cX9_mark : ByteArray := prog_1_method_22_code
def yX9_mark : MethodName := ⟨RX9, "mark", "(III)I"⟩
abbrev cX9_aim : ByteArray := prog_1_method_23_code
def yX9_aim : MethodName := ⟨RX9, "aim", "(IIIII)I"⟩
abbrev cX9_kind : ByteArray := prog_1_method_24_code
def yX9_kind : MethodName := ⟨RX9, "kind", "(I)I"⟩
abbrev cX9_as : ByteArray := prog_1_method_25_code
def yX9_as : MethodName := ⟨RX9, "as", "(II)I"⟩
abbrev cX9_ask : ByteArray := prog_1_method_26_code
def yX9_ask : MethodName := ⟨RX9, "ask", "(II)I"⟩
abbrev cX9_trace : ByteArray := prog_1_method_27_code
def yX9_trace : MethodName := ⟨RX9, "trace", "(I)I"⟩
abbrev cX9_count : ByteArray := prog_1_method_28_code
def yX9_count : MethodName := ⟨RX9, "count", "(I)I"⟩
abbrev cX9_status : ByteArray := prog_1_method_29_code
def yX9_status : MethodName := ⟨RX9, "status", "()I"⟩
abbrev cX9_found : ByteArray := prog_1_method_30_code
def yX9_found : MethodName := ⟨RX9, "found", "(I)I"⟩
abbrev cX9_fine : ByteArray := prog_1_method_31_code
def yX9_fine : MethodName := ⟨RX9, "fine", "(I)I"⟩
abbrev cX9_below : ByteArray := prog_1_method_32_code
def yX9_below : MethodName := ⟨RX9, "below", "(II)Z"⟩
abbrev cX9_isSheet : ByteArray := prog_1_method_33_code
def yX9_isSheet : MethodName := ⟨RX9, "isSheet", "(I)Z"⟩
abbrev cX9_isWave : ByteArray := prog_1_method_34_code
def yX9_isWave : MethodName := ⟨RX9, "isWave", "(I)Z"⟩
abbrev cX9_isPlate : ByteArray := prog_1_method_35_code
def yX9_isPlate : MethodName := ⟨RX9, "isPlate", "(I)Z"⟩
abbrev cX9_sheetsThere : ByteArray := prog_1_method_36_code
def yX9_sheetsThere : MethodName := ⟨RX9, "sheetsThere", "()I"⟩
abbrev cX9_wavesLit : ByteArray := prog_1_method_37_code
def yX9_wavesLit : MethodName := ⟨RX9, "wavesLit", "()I"⟩
abbrev cX9_platesOf : ByteArray := prog_1_method_38_code
def yX9_platesOf : MethodName := ⟨RX9, "platesOf", "(I)I"⟩
abbrev cX9_square : ByteArray := prog_1_method_39_code
def yX9_square : MethodName := ⟨RX9, "square", "(I)I"⟩
abbrev cX9_brightOf : ByteArray := prog_1_method_40_code
def yX9_brightOf : MethodName := ⟨RX9, "brightOf", "(JJ)J"⟩
abbrev cX9_turnedRe : ByteArray := prog_1_method_41_code
def yX9_turnedRe : MethodName := ⟨RX9, "turnedRe", "(JJI)J"⟩
abbrev cX9_turnedIm : ByteArray := prog_1_method_42_code
def yX9_turnedIm : MethodName := ⟨RX9, "turnedIm", "(JJI)J"⟩
abbrev cX9_lean : ByteArray := prog_1_method_43_code
def yX9_lean : MethodName := ⟨RX9, "lean", "(III)I"⟩
abbrev cX9_placesTurned : ByteArray := prog_1_method_44_code
def yX9_placesTurned : MethodName := ⟨RX9, "placesTurned", "(III)I"⟩
abbrev cX9_sendPart : ByteArray := prog_1_method_45_code
def yX9_sendPart : MethodName := ⟨RX9, "sendPart", "(LGrainWaves$Wave;LGrainWaves$Wave;II)V"⟩
abbrev cX9_perform : ByteArray := prog_1_method_46_code
def yX9_perform : MethodName := ⟨RX9, "perform", "(II)Z"⟩
abbrev cX9_placeTold : ByteArray := prog_1_method_47_code
def yX9_placeTold : MethodName := ⟨RX9, "placeTold", "(I)I"⟩
def RX10 : String := "GrainWavesModel"
def TX10 : u_T := fun k => match k with
  | 0 => ("GrainWavesModel", "thrown", "I", false)
  | 1 => ("GrainWavesModel", "status", "I", false)
  | 2 => ("GrainWavesModel", "lane", "[I", true)
  | 3 => ("GrainWavesModel", "many", "[I", true)
  | 4 => ("GrainWavesModel", "item", "[I", true)
  | 5 => ("GrainWavesModel", "re", "[I", true)
  | 6 => ("GrainWavesModel", "im", "[I", true)
  | 7 => ("GrainWavesModel", "newRe", "[J", true)
  | 8 => ("GrainWavesModel", "newIm", "[J", true)
  | 9 => ("GrainWavesModel", "tape", "[I", true)
  | 10 => ("GrainWavesModel", "taped", "I", false)
  | 11 => ("GrainWavesModel", "latest", "I", false)
  | 12 => ("GrainWavesModel", "size", "I", false)
  | 13 => ("GrainWavesModel", "cursor", "I", false)
  | 14 => ("GrainWavesModel", "token", "I", false)
  | 15 => ("GrainWavesModel", "from", "I", false)
  | 16 => ("GrainWavesModel", "till", "I", false)
  | 17 => ("GrainWavesModel", "fault", "I", false)
  | 18 => ("GrainWavesModel", "faultAt", "I", false)
  | 19 => ("GrainWavesModel", "isDone", "Z", false)
  | 20 => ("GrainWavesModel", "done", "I", false)
  | 21 => ("GrainWavesModel", "steps", "[I", true)
  | 22 => ("GrainWavesModel", "grain", "[I", true)
  | 23 => ("GrainWavesModel", "trace", "[I", true)
  | _ => ("GrainWavesModel", "traced", "I", false)
def tyX10 : Nat → FieldType := fun k => match k with
  | 0 => .int
  | 1 => .int
  | 2 => .array .int
  | 3 => .array .int
  | 4 => .array .int
  | 5 => .array .int
  | 6 => .array .int
  | 7 => .array .long
  | 8 => .array .long
  | 9 => .array .int
  | 10 => .int
  | 11 => .int
  | 12 => .int
  | 13 => .int
  | 14 => .int
  | 15 => .int
  | 16 => .int
  | 17 => .int
  | 18 => .int
  | 19 => .boolean
  | 20 => .int
  | 21 => .array .int
  | 22 => .array .int
  | 23 => .array .int
  | _ => .int
theorem nmX10 : ∀ a, a < 25 → ∀ b, b < 25 → a ≠ b → (TX10 a).2.1 ≠ (TX10 b).2.1 := by decide +kernel
theorem tyX10_ok : ∀ k, k < 25 → parseFieldDescriptor (TX10 k).2.2.1 = some (tyX10 k) := by decide +kernel
abbrev cX10_init : ByteArray := prog_12_method_1_code
def yX10_init : MethodName := ⟨RX10, "<init>", "()V"⟩
abbrev cX10_in : ByteArray := prog_12_method_3_code
def yX10_in : MethodName := ⟨RX10, "in", "(JJJ)Z"⟩
abbrev cX10_finding : ByteArray := prog_12_method_4_code
def yX10_finding : MethodName := ⟨RX10, "finding", "(I)I"⟩
abbrev cX10_isSheet : ByteArray := prog_12_method_5_code
def yX10_isSheet : MethodName := ⟨RX10, "isSheet", "(I)Z"⟩
abbrev cX10_sheet : ByteArray := prog_12_method_6_code
def yX10_sheet : MethodName := ⟨RX10, "sheet", "(III)I"⟩
abbrev cX10_set : ByteArray := prog_12_method_7_code
def yX10_set : MethodName := ⟨RX10, "set", "(III)I"⟩
abbrev cX10_copy : ByteArray := prog_12_method_8_code
def yX10_copy : MethodName := ⟨RX10, "copy", "(IIIII)I"⟩
abbrev cX10_drop : ByteArray := prog_12_method_9_code
def yX10_drop : MethodName := ⟨RX10, "drop", "(I)I"⟩
abbrev cX10_lookItems : ByteArray := prog_12_method_10_code
def yX10_lookItems : MethodName := ⟨RX10, "lookItems", "(III)I"⟩
abbrev cX10_isWave : ByteArray := prog_12_method_11_code
def yX10_isWave : MethodName := ⟨RX10, "isWave", "(I)Z"⟩
abbrev cX10_isPlace : ByteArray := prog_12_method_12_code
def yX10_isPlace : MethodName := ⟨RX10, "isPlace", "(I)Z"⟩
abbrev cX10_turnedRe : ByteArray := prog_12_method_13_code
def yX10_turnedRe : MethodName := ⟨RX10, "turnedRe", "(JJI)J"⟩
abbrev cX10_turnedIm : ByteArray := prog_12_method_14_code
def yX10_turnedIm : MethodName := ⟨RX10, "turnedIm", "(JJI)J"⟩
abbrev cX10_asItIs : ByteArray := prog_12_method_15_code
def yX10_asItIs : MethodName := ⟨RX10, "asItIs", "(I)V"⟩
abbrev cX10_isMade : ByteArray := prog_12_method_16_code
def yX10_isMade : MethodName := ⟨RX10, "isMade", "(I)Z"⟩
abbrev cX10_goWay : ByteArray := prog_12_method_17_code
def yX10_goWay : MethodName := ⟨RX10, "goWay", "(IZ)V"⟩
abbrev cX10_way : ByteArray := prog_12_method_18_code
def yX10_way : MethodName := ⟨RX10, "way", "(II)I"⟩
abbrev cX10_lay : ByteArray := prog_12_method_19_code
def yX10_lay : MethodName := ⟨RX10, "lay", "(III)I"⟩
abbrev cX10_part : ByteArray := prog_12_method_20_code
def yX10_part : MethodName := ⟨RX10, "part", "(III)I"⟩
abbrev cX10_brightOf : ByteArray := prog_12_method_21_code
def yX10_brightOf : MethodName := ⟨RX10, "brightOf", "(II)J"⟩
abbrev cX10_bright : ByteArray := prog_12_method_22_code
def yX10_bright : MethodName := ⟨RX10, "bright", "(II)J"⟩
abbrev cX10_moved : ByteArray := prog_12_method_23_code
def yX10_moved : MethodName := ⟨RX10, "moved", "(III)I"⟩
abbrev cX10_feed : ByteArray := prog_12_method_24_code
def yX10_feed : MethodName := ⟨RX10, "feed", "(JI)I"⟩
abbrev cX10_byteAt : ByteArray := prog_12_method_25_code
def yX10_byteAt : MethodName := ⟨RX10, "byteAt", "(I)I"⟩
abbrev cX10_isLetter : ByteArray := prog_12_method_26_code
def yX10_isLetter : MethodName := ⟨RX10, "isLetter", "(I)Z"⟩
abbrev cX10_isFigure : ByteArray := prog_12_method_27_code
def yX10_isFigure : MethodName := ⟨RX10, "isFigure", "(I)Z"⟩
abbrev cX10_step : ByteArray := prog_12_method_28_code
def yX10_step : MethodName := ⟨RX10, "step", "()V"⟩
abbrev cX10_bad : ByteArray := prog_12_method_29_code
def yX10_bad : MethodName := ⟨RX10, "bad", "(I)V"⟩
abbrev cX10_must : ByteArray := prog_12_method_30_code
def yX10_must : MethodName := ⟨RX10, "must", "(Z)V"⟩
abbrev cX10_word : ByteArray := prog_12_method_31_code
def yX10_word : MethodName := ⟨RX10, "word", "()J"⟩
abbrev cX10_numberTo : ByteArray := prog_12_method_32_code
def yX10_numberTo : MethodName := ⟨RX10, "numberTo", "(I)I"⟩
abbrev cX10_act : ByteArray := prog_12_method_33_code
def yX10_act : MethodName := ⟨RX10, "act", "(JIIIII)V"⟩
abbrev cX10_readAct : ByteArray := prog_12_method_34_code
def yX10_readAct : MethodName := ⟨RX10, "readAct", "()V"⟩
abbrev cX10_readAll : ByteArray := prog_12_method_35_code
def yX10_readAll : MethodName := ⟨RX10, "readAll", "()V"⟩
abbrev cX10_run : ByteArray := prog_12_method_36_code
def yX10_run : MethodName := ⟨RX10, "run", "()I"⟩
abbrev cX10_fault : ByteArray := prog_12_method_37_code
def yX10_fault : MethodName := ⟨RX10, "fault", "()I"⟩
abbrev cX10_isPlate : ByteArray := prog_12_method_38_code
def yX10_isPlate : MethodName := ⟨RX10, "isPlate", "(I)Z"⟩
abbrev cX10_lookAt : ByteArray := prog_12_method_39_code
def yX10_lookAt : MethodName := ⟨RX10, "lookAt", "(I)I"⟩
abbrev cX10_take : ByteArray := prog_12_method_40_code
def yX10_take : MethodName := ⟨RX10, "take", "(IIII)I"⟩
abbrev cX10_told : ByteArray := prog_12_method_41_code
def yX10_told : MethodName := ⟨RX10, "told", "(I)I"⟩
abbrev cX10_lose : ByteArray := prog_12_method_42_code
def yX10_lose : MethodName := ⟨RX10, "lose", "(II)I"⟩
abbrev cX10_grain : ByteArray := prog_12_method_43_code
def yX10_grain : MethodName := ⟨RX10, "grain", "(II)I"⟩
abbrev cX10_sends : ByteArray := prog_12_method_44_code
def yX10_sends : MethodName := ⟨RX10, "sends", "(II)J"⟩
abbrev cX10_read : ByteArray := prog_12_method_45_code
def yX10_read : MethodName := ⟨RX10, "read", "(III)I"⟩
abbrev cX10_parts : ByteArray := prog_12_method_46_code
def yX10_parts : MethodName := ⟨RX10, "parts", "(IIII)I"⟩
abbrev cX10_lostOn : ByteArray := prog_12_method_47_code
def yX10_lostOn : MethodName := ⟨RX10, "lostOn", "(I)I"⟩
abbrev cX10_off : ByteArray := prog_12_method_48_code
def yX10_off : MethodName := ⟨RX10, "off", "(II)I"⟩
abbrev cX10_length : ByteArray := prog_12_method_49_code
def yX10_length : MethodName := ⟨RX10, "length", "(J)J"⟩
abbrev cX10_lack : ByteArray := prog_12_method_50_code
def yX10_lack : MethodName := ⟨RX10, "lack", "(III)J"⟩
abbrev cX10_isFit : ByteArray := prog_12_method_51_code
def yX10_isFit : MethodName := ⟨RX10, "isFit", "(III)Z"⟩
abbrev cX10_fits : ByteArray := prog_12_method_52_code
def yX10_fits : MethodName := ⟨RX10, "fits", "(IIII)I"⟩
abbrev cX10_sumOf : ByteArray := prog_12_method_53_code
def yX10_sumOf : MethodName := ⟨RX10, "sumOf", "(II)I"⟩
abbrev cX10_mark : ByteArray := prog_12_method_54_code
def yX10_mark : MethodName := ⟨RX10, "mark", "(III)I"⟩
abbrev cX10_aim : ByteArray := prog_12_method_55_code
def yX10_aim : MethodName := ⟨RX10, "aim", "(IIIII)I"⟩
abbrev cX10_kindOf : ByteArray := prog_12_method_56_code
def yX10_kindOf : MethodName := ⟨RX10, "kindOf", "(I)I"⟩
abbrev cX10_isOf : ByteArray := prog_12_method_57_code
def yX10_isOf : MethodName := ⟨RX10, "isOf", "(II)Z"⟩
abbrev cX10_kind : ByteArray := prog_12_method_58_code
def yX10_kind : MethodName := ⟨RX10, "kind", "(I)I"⟩
abbrev cX10_as : ByteArray := prog_12_method_59_code
def yX10_as : MethodName := ⟨RX10, "as", "(II)I"⟩
abbrev cX10_began : ByteArray := prog_12_method_60_code
def yX10_began : MethodName := ⟨RX10, "began", "(I)V"⟩
abbrev cX10_clearSize : ByteArray := prog_12_method_61_code
def yX10_clearSize : MethodName := ⟨RX10, "clearSize", "(II)I"⟩
abbrev cX10_markOf : ByteArray := prog_12_method_62_code
def yX10_markOf : MethodName := ⟨RX10, "markOf", "(II)I"⟩
abbrev cX10_tornSize : ByteArray := prog_12_method_63_code
def yX10_tornSize : MethodName := ⟨RX10, "tornSize", "(II)I"⟩
abbrev cX10_ask : ByteArray := prog_12_method_64_code
def yX10_ask : MethodName := ⟨RX10, "ask", "(II)I"⟩
abbrev cX10_trace : ByteArray := prog_12_method_65_code
def yX10_trace : MethodName := ⟨RX10, "trace", "(I)I"⟩
abbrev cX10_count : ByteArray := prog_12_method_66_code
def yX10_count : MethodName := ⟨RX10, "count", "(I)I"⟩
abbrev cX10_status : ByteArray := prog_12_method_67_code
def yX10_status : MethodName := ⟨RX10, "status", "()I"⟩
def RJ6 : String := "java/lang/Integer"
def TJ6 : u_T := fun k => match k with
  | _ => ("", "", "", false)
def tyJ6 : Nat → FieldType := fun k => match k with
  | _ => .int
theorem nmJ6 : ∀ a, a < 0 → ∀ b, b < 0 → a ≠ b → (TJ6 a).2.1 ≠ (TJ6 b).2.1 := by decide +kernel
theorem tyJ6_ok : ∀ k, k < 0 → parseFieldDescriptor (TJ6 k).2.2.1 = some (tyJ6 k) := by decide +kernel
abbrev cJ6_bitCount_0f7a4 : ByteArray := prog_13_method_49_code
def yJ6_bitCount_0f7a4 : MethodName := ⟨RJ6, "bitCount", "(I)I"⟩
def RJ9 : String := "java/lang/Math"
def TJ9 : u_T := fun k => match k with
  | _ => ("", "", "", false)
def tyJ9 : Nat → FieldType := fun k => match k with
  | _ => .int
theorem nmJ9 : ∀ a, a < 0 → ∀ b, b < 0 → a ≠ b → (TJ9 a).2.1 ≠ (TJ9 b).2.1 := by decide +kernel
theorem tyJ9_ok : ∀ k, k < 0 → parseFieldDescriptor (TJ9 k).2.2.1 = some (tyJ9 k) := by decide +kernel
abbrev cJ9_abs_0f7a4 : ByteArray := prog_14_method_59_code
def yJ9_abs_0f7a4 : MethodName := ⟨RJ9, "abs", "(I)I"⟩
abbrev cJ9_abs_067f4 : ByteArray := prog_14_method_61_code
def yJ9_abs_067f4 : MethodName := ⟨RJ9, "abs", "(J)J"⟩
abbrev cJ9_max_7cf53 : ByteArray := prog_14_method_65_code
def yJ9_max_7cf53 : MethodName := ⟨RJ9, "max", "(II)I"⟩
abbrev cJ9_min_f86c9 : ByteArray := prog_14_method_70_code
def yJ9_min_f86c9 : MethodName := ⟨RJ9, "min", "(JJ)J"⟩
def RJ0 : String := "java/lang/String"
def TJ0 : u_T := fun k => match k with
  | _ => ("", "", "", false)
def tyJ0 : Nat → FieldType := fun k => match k with
  | _ => .int
theorem nmJ0 : ∀ a, a < 0 → ∀ b, b < 0 → a ≠ b → (TJ0 a).2.1 ≠ (TJ0 b).2.1 := by decide +kernel
theorem tyJ0_ok : ∀ k, k < 0 → parseFieldDescriptor (TJ0 k).2.2.1 = some (tyJ0 k) := by decide +kernel
abbrev cJ0_length_8abf5 : ByteArray := prog_15_method_54_code
def yJ0_length_8abf5 : MethodName := ⟨RJ0, "length", "()I"⟩
abbrev cJ0_charAt_5068e : ByteArray := prog_15_method_56_code
def yJ0_charAt_5068e : MethodName := ⟨RJ0, "charAt", "(I)C"⟩
abbrev cJ0_coder_7d493 : ByteArray := prog_15_method_152_code
def yJ0_coder_7d493 : MethodName := ⟨RJ0, "coder", "()B"⟩
abbrev cJ0_isLatin1_aae02 : ByteArray := prog_15_method_154_code
def yJ0_isLatin1_aae02 : MethodName := ⟨RJ0, "isLatin1", "()Z"⟩
abbrev cJ0_checkIndex_df160 : ByteArray := prog_15_method_155_code
def yJ0_checkIndex_df160 : MethodName := ⟨RJ0, "checkIndex", "(II)V"⟩
def RJ1 : String := "java/lang/StringLatin1"
def TJ1 : u_T := fun k => match k with
  | _ => ("", "", "", false)
def tyJ1 : Nat → FieldType := fun k => match k with
  | _ => .int
theorem nmJ1 : ∀ a, a < 0 → ∀ b, b < 0 → a ≠ b → (TJ1 a).2.1 ≠ (TJ1 b).2.1 := by decide +kernel
theorem tyJ1_ok : ∀ k, k < 0 → parseFieldDescriptor (TJ1 k).2.2.1 = some (tyJ1 k) := by decide +kernel
abbrev cJ1_charAt_3b067 : ByteArray := prog_16_method_2_code
def yJ1_charAt_3b067 : MethodName := ⟨RJ1, "charAt", "([BI)C"⟩
def RJ2 : String := "java/lang/StringUTF16"
def TJ2 : u_T := fun k => match k with
  | _ => ("", "", "", false)
def tyJ2 : Nat → FieldType := fun k => match k with
  | _ => .int
theorem nmJ2 : ∀ a, a < 0 → ∀ b, b < 0 → a ≠ b → (TJ2 a).2.1 ≠ (TJ2 b).2.1 := by decide +kernel
theorem tyJ2_ok : ∀ k, k < 0 → parseFieldDescriptor (TJ2 k).2.2.1 = some (tyJ2 k) := by decide +kernel
abbrev cJ2_getChar_3b067 : ByteArray := prog_17_method_5_code
def yJ2_getChar_3b067 : MethodName := ⟨RJ2, "getChar", "([BI)C"⟩
abbrev cJ2_length_9d52b : ByteArray := prog_17_method_6_code
def yJ2_length_9d52b : MethodName := ⟨RJ2, "length", "([B)I"⟩
abbrev cJ2_charAt_3b067 : ByteArray := prog_17_method_83_code
def yJ2_charAt_3b067 : MethodName := ⟨RJ2, "charAt", "([BI)C"⟩
abbrev cJ2_checkIndex_2214a : ByteArray := prog_17_method_91_code
def yJ2_checkIndex_2214a : MethodName := ⟨RJ2, "checkIndex", "(I[B)V"⟩
def RJ10 : String := "java/lang/System"
def TJ10 : u_T := fun k => match k with
  | _ => ("", "", "", false)
def tyJ10 : Nat → FieldType := fun k => match k with
  | _ => .int
theorem nmJ10 : ∀ a, a < 0 → ∀ b, b < 0 → a ≠ b → (TJ10 a).2.1 ≠ (TJ10 b).2.1 := by decide +kernel
theorem tyJ10_ok : ∀ k, k < 0 → parseFieldDescriptor (TJ10 k).2.2.1 = some (tyJ10 k) := by decide +kernel
def RJ7 : String := "java/util/Arrays"
def TJ7 : u_T := fun k => match k with
  | _ => ("", "", "", false)
def tyJ7 : Nat → FieldType := fun k => match k with
  | _ => .int
theorem nmJ7 : ∀ a, a < 0 → ∀ b, b < 0 → a ≠ b → (TJ7 a).2.1 ≠ (TJ7 b).2.1 := by decide +kernel
theorem tyJ7_ok : ∀ k, k < 0 → parseFieldDescriptor (TJ7 k).2.2.1 = some (tyJ7 k) := by decide +kernel
abbrev cJ7_fill_d0a16 : ByteArray := prog_19_method_101_code
def yJ7_fill_d0a16 : MethodName := ⟨RJ7, "fill", "([JJ)V"⟩
abbrev cJ7_fill_53178 : ByteArray := prog_19_method_103_code
def yJ7_fill_53178 : MethodName := ⟨RJ7, "fill", "([II)V"⟩
def RJ3 : String := "jdk/internal/util/Preconditions"
def TJ3 : u_T := fun k => match k with
  | _ => ("", "", "", false)
def tyJ3 : Nat → FieldType := fun k => match k with
  | _ => .int
theorem nmJ3 : ∀ a, a < 0 → ∀ b, b < 0 → a ≠ b → (TJ3 a).2.1 ≠ (TJ3 b).2.1 := by decide +kernel
theorem tyJ3_ok : ∀ k, k < 0 → parseFieldDescriptor (TJ3 k).2.2.1 = some (tyJ3 k) := by decide +kernel
abbrev cJ3_checkIndex_8e157 : ByteArray := prog_20_method_11_code
def yJ3_checkIndex_8e157 : MethodName := ⟨RJ3, "checkIndex", "(IILjava/util/function/BiFunction;)I"⟩
def RL : String := "GrainWavesLaw"
abbrev cL_law : ByteArray := code
def yL_law : MethodName := ⟨RL, "law", "([I)Z"⟩
