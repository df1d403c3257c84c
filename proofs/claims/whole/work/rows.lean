section
-- ===== PART A: goes FIRST, ahead of the names: the tables' words, and 'selects' of the private methods out of them =====
/-- a private method of a class that the tables say can be made, by its rows of tables_1 -/
def lw_okq (q : MethodName × Nat) : Prop := (q.1.cls ≠ "java/lang/invoke/MethodHandle" ∧ q.1.cls ≠ "java/lang/invoke/VarHandle") ∧ Cond.instantiable q.1.cls q.2 ∈ tables_1 ∧ Cond.privateMethod q.1 ∈ tables_1 ∧ Cond.instanceMethod q.1 ∈ tables_1
theorem lw_p0 : lw_okq (⟨"GrainWaves", "found", "(I)I"⟩, 11) := ⟨⟨by decide +kernel, by decide +kernel⟩, List.mem_of_getElem? (i := 21) (by decide +kernel), List.mem_of_getElem? (i := 247) (by decide +kernel), List.mem_of_getElem? (i := 248) (by decide +kernel)⟩
theorem lw_p1 : lw_okq (⟨"GrainWaves", "fine", "(I)I"⟩, 11) := ⟨⟨by decide +kernel, by decide +kernel⟩, List.mem_of_getElem? (i := 21) (by decide +kernel), List.mem_of_getElem? (i := 259) (by decide +kernel), List.mem_of_getElem? (i := 260) (by decide +kernel)⟩
theorem lw_p2 : lw_okq (⟨"GrainWaves", "perform", "(II)Z"⟩, 11) := ⟨⟨by decide +kernel, by decide +kernel⟩, List.mem_of_getElem? (i := 21) (by decide +kernel), List.mem_of_getElem? (i := 426) (by decide +kernel), List.mem_of_getElem? (i := 427) (by decide +kernel)⟩
theorem lw_p3 : lw_okq (⟨"GrainWaves", "placeTold", "(I)I"⟩, 11) := ⟨⟨by decide +kernel, by decide +kernel⟩, List.mem_of_getElem? (i := 21) (by decide +kernel), List.mem_of_getElem? (i := 438) (by decide +kernel), List.mem_of_getElem? (i := 439) (by decide +kernel)⟩
theorem lw_p4 : lw_okq (⟨"GrainWaves", "sendPart", "(LGrainWaves$Wave;LGrainWaves$Wave;II)V"⟩, 11) := ⟨⟨by decide +kernel, by decide +kernel⟩, List.mem_of_getElem? (i := 21) (by decide +kernel), List.mem_of_getElem? (i := 585) (by decide +kernel), List.mem_of_getElem? (i := 586) (by decide +kernel)⟩
theorem lw_p5 : lw_okq (⟨"GrainWaves", "sheetsThere", "()I"⟩, 11) := ⟨⟨by decide +kernel, by decide +kernel⟩, List.mem_of_getElem? (i := 21) (by decide +kernel), List.mem_of_getElem? (i := 780) (by decide +kernel), List.mem_of_getElem? (i := 781) (by decide +kernel)⟩
theorem lw_p6 : lw_okq (⟨"GrainWaves", "wavesLit", "()I"⟩, 11) := ⟨⟨by decide +kernel, by decide +kernel⟩, List.mem_of_getElem? (i := 21) (by decide +kernel), List.mem_of_getElem? (i := 784) (by decide +kernel), List.mem_of_getElem? (i := 785) (by decide +kernel)⟩
theorem lw_p7 : lw_okq (⟨"GrainWaves", "platesOf", "(I)I"⟩, 11) := ⟨⟨by decide +kernel, by decide +kernel⟩, List.mem_of_getElem? (i := 21) (by decide +kernel), List.mem_of_getElem? (i := 792) (by decide +kernel), List.mem_of_getElem? (i := 793) (by decide +kernel)⟩
theorem lw_p8 : lw_okq (⟨"GrainWavesModel", "finding", "(I)I"⟩, 25) := ⟨⟨by decide +kernel, by decide +kernel⟩, List.mem_of_getElem? (i := 800) (by decide +kernel), List.mem_of_getElem? (i := 895) (by decide +kernel), List.mem_of_getElem? (i := 896) (by decide +kernel)⟩
theorem lw_p9 : lw_okq (⟨"GrainWavesModel", "goWay", "(IZ)V"⟩, 25) := ⟨⟨by decide +kernel, by decide +kernel⟩, List.mem_of_getElem? (i := 800) (by decide +kernel), List.mem_of_getElem? (i := 919) (by decide +kernel), List.mem_of_getElem? (i := 920) (by decide +kernel)⟩
theorem lw_p10 : lw_okq (⟨"GrainWavesModel", "isMade", "(I)Z"⟩, 25) := ⟨⟨by decide +kernel, by decide +kernel⟩, List.mem_of_getElem? (i := 800) (by decide +kernel), List.mem_of_getElem? (i := 931) (by decide +kernel), List.mem_of_getElem? (i := 932) (by decide +kernel)⟩
theorem lw_p11 : lw_okq (⟨"GrainWavesModel", "lookItems", "(III)I"⟩, 25) := ⟨⟨by decide +kernel, by decide +kernel⟩, List.mem_of_getElem? (i := 800) (by decide +kernel), List.mem_of_getElem? (i := 942) (by decide +kernel), List.mem_of_getElem? (i := 943) (by decide +kernel)⟩
theorem lw_p12 : lw_okq (⟨"GrainWavesModel", "brightOf", "(II)J"⟩, 25) := ⟨⟨by decide +kernel, by decide +kernel⟩, List.mem_of_getElem? (i := 800) (by decide +kernel), List.mem_of_getElem? (i := 960) (by decide +kernel), List.mem_of_getElem? (i := 961) (by decide +kernel)⟩
theorem lw_p13 : lw_okq (⟨"GrainWavesModel", "readAll", "()V"⟩, 25) := ⟨⟨by decide +kernel, by decide +kernel⟩, List.mem_of_getElem? (i := 800) (by decide +kernel), List.mem_of_getElem? (i := 978) (by decide +kernel), List.mem_of_getElem? (i := 979) (by decide +kernel)⟩
theorem lw_p14 : lw_okq (⟨"GrainWavesModel", "step", "()V"⟩, 25) := ⟨⟨by decide +kernel, by decide +kernel⟩, List.mem_of_getElem? (i := 800) (by decide +kernel), List.mem_of_getElem? (i := 982) (by decide +kernel), List.mem_of_getElem? (i := 983) (by decide +kernel)⟩
theorem lw_p15 : lw_okq (⟨"GrainWavesModel", "byteAt", "(I)I"⟩, 25) := ⟨⟨by decide +kernel, by decide +kernel⟩, List.mem_of_getElem? (i := 800) (by decide +kernel), List.mem_of_getElem? (i := 986) (by decide +kernel), List.mem_of_getElem? (i := 987) (by decide +kernel)⟩
def lw_privs_1 : List (MethodName × Nat) := [(⟨"GrainWaves", "found", "(I)I"⟩, 11), (⟨"GrainWaves", "fine", "(I)I"⟩, 11), (⟨"GrainWaves", "perform", "(II)Z"⟩, 11), (⟨"GrainWaves", "placeTold", "(I)I"⟩, 11), (⟨"GrainWaves", "sendPart", "(LGrainWaves$Wave;LGrainWaves$Wave;II)V"⟩, 11), (⟨"GrainWaves", "sheetsThere", "()I"⟩, 11), (⟨"GrainWaves", "wavesLit", "()I"⟩, 11), (⟨"GrainWaves", "platesOf", "(I)I"⟩, 11), (⟨"GrainWavesModel", "finding", "(I)I"⟩, 25), (⟨"GrainWavesModel", "goWay", "(IZ)V"⟩, 25), (⟨"GrainWavesModel", "isMade", "(I)Z"⟩, 25), (⟨"GrainWavesModel", "lookItems", "(III)I"⟩, 25), (⟨"GrainWavesModel", "brightOf", "(II)J"⟩, 25), (⟨"GrainWavesModel", "readAll", "()V"⟩, 25), (⟨"GrainWavesModel", "step", "()V"⟩, 25), (⟨"GrainWavesModel", "byteAt", "(I)I"⟩, 25)]
theorem lw_r1 : ∀ q ∈ lw_privs_1, lw_okq q := List.forall_mem_cons.mpr ⟨lw_p0, List.forall_mem_cons.mpr ⟨lw_p1, List.forall_mem_cons.mpr ⟨lw_p2, List.forall_mem_cons.mpr ⟨lw_p3, List.forall_mem_cons.mpr ⟨lw_p4, List.forall_mem_cons.mpr ⟨lw_p5, List.forall_mem_cons.mpr ⟨lw_p6, List.forall_mem_cons.mpr ⟨lw_p7, List.forall_mem_cons.mpr ⟨lw_p8, List.forall_mem_cons.mpr ⟨lw_p9, List.forall_mem_cons.mpr ⟨lw_p10, List.forall_mem_cons.mpr ⟨lw_p11, List.forall_mem_cons.mpr ⟨lw_p12, List.forall_mem_cons.mpr ⟨lw_p13, List.forall_mem_cons.mpr ⟨lw_p14, List.forall_mem_cons.mpr ⟨lw_p15, fun _ h => absurd h List.not_mem_nil⟩⟩⟩⟩⟩⟩⟩⟩⟩⟩⟩⟩⟩⟩⟩⟩
theorem lw_p16 : lw_okq (⟨"GrainWavesModel", "readAct", "()V"⟩, 25) := ⟨⟨by decide +kernel, by decide +kernel⟩, List.mem_of_getElem? (i := 800) (by decide +kernel), List.mem_of_getElem? (i := 996) (by decide +kernel), List.mem_of_getElem? (i := 997) (by decide +kernel)⟩
theorem lw_p17 : lw_okq (⟨"GrainWavesModel", "word", "()J"⟩, 25) := ⟨⟨by decide +kernel, by decide +kernel⟩, List.mem_of_getElem? (i := 800) (by decide +kernel), List.mem_of_getElem? (i := 1000) (by decide +kernel), List.mem_of_getElem? (i := 1001) (by decide +kernel)⟩
theorem lw_p18 : lw_okq (⟨"GrainWavesModel", "must", "(Z)V"⟩, 25) := ⟨⟨by decide +kernel, by decide +kernel⟩, List.mem_of_getElem? (i := 800) (by decide +kernel), List.mem_of_getElem? (i := 1011) (by decide +kernel), List.mem_of_getElem? (i := 1012) (by decide +kernel)⟩
theorem lw_p19 : lw_okq (⟨"GrainWavesModel", "bad", "(I)V"⟩, 25) := ⟨⟨by decide +kernel, by decide +kernel⟩, List.mem_of_getElem? (i := 800) (by decide +kernel), List.mem_of_getElem? (i := 1015) (by decide +kernel), List.mem_of_getElem? (i := 1016) (by decide +kernel)⟩
theorem lw_p20 : lw_okq (⟨"GrainWavesModel", "numberTo", "(I)I"⟩, 25) := ⟨⟨by decide +kernel, by decide +kernel⟩, List.mem_of_getElem? (i := 800) (by decide +kernel), List.mem_of_getElem? (i := 1019) (by decide +kernel), List.mem_of_getElem? (i := 1020) (by decide +kernel)⟩
theorem lw_p21 : lw_okq (⟨"GrainWavesModel", "act", "(JIIIII)V"⟩, 25) := ⟨⟨by decide +kernel, by decide +kernel⟩, List.mem_of_getElem? (i := 800) (by decide +kernel), List.mem_of_getElem? (i := 1023) (by decide +kernel), List.mem_of_getElem? (i := 1024) (by decide +kernel)⟩
theorem lw_p22 : lw_okq (⟨"GrainWavesModel", "asItIs", "(I)V"⟩, 25) := ⟨⟨by decide +kernel, by decide +kernel⟩, List.mem_of_getElem? (i := 800) (by decide +kernel), List.mem_of_getElem? (i := 1027) (by decide +kernel), List.mem_of_getElem? (i := 1028) (by decide +kernel)⟩
theorem lw_p23 : lw_okq (⟨"GrainWavesModel", "lookAt", "(I)I"⟩, 25) := ⟨⟨by decide +kernel, by decide +kernel⟩, List.mem_of_getElem? (i := 800) (by decide +kernel), List.mem_of_getElem? (i := 1049) (by decide +kernel), List.mem_of_getElem? (i := 1050) (by decide +kernel)⟩
theorem lw_p24 : lw_okq (⟨"GrainWavesModel", "sends", "(II)J"⟩, 25) := ⟨⟨by decide +kernel, by decide +kernel⟩, List.mem_of_getElem? (i := 800) (by decide +kernel), List.mem_of_getElem? (i := 1064) (by decide +kernel), List.mem_of_getElem? (i := 1065) (by decide +kernel)⟩
theorem lw_p25 : lw_okq (⟨"GrainWavesModel", "lostOn", "(I)I"⟩, 25) := ⟨⟨by decide +kernel, by decide +kernel⟩, List.mem_of_getElem? (i := 800) (by decide +kernel), List.mem_of_getElem? (i := 1077) (by decide +kernel), List.mem_of_getElem? (i := 1078) (by decide +kernel)⟩
theorem lw_p26 : lw_okq (⟨"GrainWavesModel", "isFit", "(III)Z"⟩, 25) := ⟨⟨by decide +kernel, by decide +kernel⟩, List.mem_of_getElem? (i := 800) (by decide +kernel), List.mem_of_getElem? (i := 1092) (by decide +kernel), List.mem_of_getElem? (i := 1093) (by decide +kernel)⟩
theorem lw_p27 : lw_okq (⟨"GrainWavesModel", "sumOf", "(II)I"⟩, 25) := ⟨⟨by decide +kernel, by decide +kernel⟩, List.mem_of_getElem? (i := 800) (by decide +kernel), List.mem_of_getElem? (i := 1101) (by decide +kernel), List.mem_of_getElem? (i := 1102) (by decide +kernel)⟩
theorem lw_p28 : lw_okq (⟨"GrainWavesModel", "kindOf", "(I)I"⟩, 25) := ⟨⟨by decide +kernel, by decide +kernel⟩, List.mem_of_getElem? (i := 800) (by decide +kernel), List.mem_of_getElem? (i := 1114) (by decide +kernel), List.mem_of_getElem? (i := 1115) (by decide +kernel)⟩
theorem lw_p29 : lw_okq (⟨"GrainWavesModel", "markOf", "(II)I"⟩, 25) := ⟨⟨by decide +kernel, by decide +kernel⟩, List.mem_of_getElem? (i := 800) (by decide +kernel), List.mem_of_getElem? (i := 1130) (by decide +kernel), List.mem_of_getElem? (i := 1131) (by decide +kernel)⟩
theorem lw_p30 : lw_okq (⟨"GrainWavesModel", "began", "(I)V"⟩, 25) := ⟨⟨by decide +kernel, by decide +kernel⟩, List.mem_of_getElem? (i := 800) (by decide +kernel), List.mem_of_getElem? (i := 1134) (by decide +kernel), List.mem_of_getElem? (i := 1135) (by decide +kernel)⟩
theorem lw_p31 : lw_okq (⟨"GrainWavesModel", "clearSize", "(II)I"⟩, 25) := ⟨⟨by decide +kernel, by decide +kernel⟩, List.mem_of_getElem? (i := 800) (by decide +kernel), List.mem_of_getElem? (i := 1138) (by decide +kernel), List.mem_of_getElem? (i := 1139) (by decide +kernel)⟩
def lw_privs_2 : List (MethodName × Nat) := [(⟨"GrainWavesModel", "readAct", "()V"⟩, 25), (⟨"GrainWavesModel", "word", "()J"⟩, 25), (⟨"GrainWavesModel", "must", "(Z)V"⟩, 25), (⟨"GrainWavesModel", "bad", "(I)V"⟩, 25), (⟨"GrainWavesModel", "numberTo", "(I)I"⟩, 25), (⟨"GrainWavesModel", "act", "(JIIIII)V"⟩, 25), (⟨"GrainWavesModel", "asItIs", "(I)V"⟩, 25), (⟨"GrainWavesModel", "lookAt", "(I)I"⟩, 25), (⟨"GrainWavesModel", "sends", "(II)J"⟩, 25), (⟨"GrainWavesModel", "lostOn", "(I)I"⟩, 25), (⟨"GrainWavesModel", "isFit", "(III)Z"⟩, 25), (⟨"GrainWavesModel", "sumOf", "(II)I"⟩, 25), (⟨"GrainWavesModel", "kindOf", "(I)I"⟩, 25), (⟨"GrainWavesModel", "markOf", "(II)I"⟩, 25), (⟨"GrainWavesModel", "began", "(I)V"⟩, 25), (⟨"GrainWavesModel", "clearSize", "(II)I"⟩, 25)]
theorem lw_r2 : ∀ q ∈ lw_privs_2, lw_okq q := List.forall_mem_cons.mpr ⟨lw_p16, List.forall_mem_cons.mpr ⟨lw_p17, List.forall_mem_cons.mpr ⟨lw_p18, List.forall_mem_cons.mpr ⟨lw_p19, List.forall_mem_cons.mpr ⟨lw_p20, List.forall_mem_cons.mpr ⟨lw_p21, List.forall_mem_cons.mpr ⟨lw_p22, List.forall_mem_cons.mpr ⟨lw_p23, List.forall_mem_cons.mpr ⟨lw_p24, List.forall_mem_cons.mpr ⟨lw_p25, List.forall_mem_cons.mpr ⟨lw_p26, List.forall_mem_cons.mpr ⟨lw_p27, List.forall_mem_cons.mpr ⟨lw_p28, List.forall_mem_cons.mpr ⟨lw_p29, List.forall_mem_cons.mpr ⟨lw_p30, List.forall_mem_cons.mpr ⟨lw_p31, fun _ h => absurd h List.not_mem_nil⟩⟩⟩⟩⟩⟩⟩⟩⟩⟩⟩⟩⟩⟩⟩⟩
theorem lw_p32 : lw_okq (⟨"GrainWavesModel", "tornSize", "(II)I"⟩, 25) := ⟨⟨by decide +kernel, by decide +kernel⟩, List.mem_of_getElem? (i := 800) (by decide +kernel), List.mem_of_getElem? (i := 1142) (by decide +kernel), List.mem_of_getElem? (i := 1143) (by decide +kernel)⟩
def lw_privs_3 : List (MethodName × Nat) := [(⟨"GrainWavesModel", "tornSize", "(II)I"⟩, 25)]
theorem lw_r3 : ∀ q ∈ lw_privs_3, lw_okq q := List.forall_mem_cons.mpr ⟨lw_p32, fun _ h => absurd h List.not_mem_nil⟩
def lw_privs : List (MethodName × Nat) := lw_privs_1 ++ (lw_privs_2 ++ (lw_privs_3))
def lw_tbl : List Cond := k2_sels lw_privs ++ tables_1
theorem lw_privs_ok : ∀ q ∈ lw_privs, lw_okq q := by
  show ∀ q ∈ lw_privs_1 ++ (lw_privs_2 ++ (lw_privs_3)), lw_okq q
  exact List.forall_mem_append.mpr ⟨lw_r1, List.forall_mem_append.mpr ⟨lw_r2, lw_r3⟩⟩
def RX0 : String := "GrainWaves$Asks"
def TX0 : u_T := fun k => match k with
  | 0 => ("GrainWaves$Asks", "bodies", "[I", true)
  | _ => ("GrainWaves$Asks", "begun", "I", false)
def tyX0 : Nat → FieldType := fun k => match k with
  | 0 => .array .int
  | _ => .int
theorem nmX0 : ∀ a, a < 2 → ∀ b, b < 2 → a ≠ b → (TX0 a).2.1 ≠ (TX0 b).2.1 := by decide +kernel
theorem tyX0_ok : ∀ k, k < 2 → parseFieldDescriptor (TX0 k).2.2.1 = some (tyX0 k) := by decide +kernel
abbrev cX0_init : ByteArray := prog_2_method_1_code
def yX0_init : MethodName := ⟨RX0, "<init>", "()V"⟩
abbrev cX0_forget : ByteArray := prog_2_method_2_code
def yX0_forget : MethodName := ⟨RX0, "forget", "()V"⟩
abbrev cX0_begin : ByteArray := prog_2_method_3_code
def yX0_begin : MethodName := ⟨RX0, "begin", "(I)V"⟩
abbrev cX0_sizeAsked : ByteArray := prog_2_method_4_code
def yX0_sizeAsked : MethodName := ⟨RX0, "sizeAsked", "(LGrainWaves$Plate;I)I"⟩
abbrev cX0_markAsked : ByteArray := prog_2_method_5_code
def yX0_markAsked : MethodName := ⟨RX0, "markAsked", "(LGrainWaves$Plate;I)I"⟩
abbrev cX0_sizeLent : ByteArray := prog_2_method_6_code
def yX0_sizeLent : MethodName := ⟨RX0, "sizeLent", "(LGrainWaves$Plate;)I"⟩
abbrev cX0_sizeOfClear : ByteArray := prog_2_method_7_code
def yX0_sizeOfClear : MethodName := ⟨RX0, "sizeOfClear", "(LGrainWaves$Plate;)I"⟩
abbrev cX0_sizeOfFully : ByteArray := prog_2_method_8_code
def yX0_sizeOfFully : MethodName := ⟨RX0, "sizeOfFully", "(LGrainWaves$Plate;)I"⟩
abbrev cX0_sizeOfTorn : ByteArray := prog_2_method_9_code
def yX0_sizeOfTorn : MethodName := ⟨RX0, "sizeOfTorn", "(LGrainWaves$Plate;I)I"⟩
abbrev cX0_sizeOfBlind : ByteArray := prog_2_method_10_code
def yX0_sizeOfBlind : MethodName := ⟨RX0, "sizeOfBlind", "(LGrainWaves$Plate;I)I"⟩
abbrev cX0_markLent : ByteArray := prog_2_method_11_code
def yX0_markLent : MethodName := ⟨RX0, "markLent", "(LGrainWaves$Plate;)I"⟩
abbrev cX0_markOfClear : ByteArray := prog_2_method_12_code
def yX0_markOfClear : MethodName := ⟨RX0, "markOfClear", "(LGrainWaves$Plate;)I"⟩
abbrev cX0_markOfFully : ByteArray := prog_2_method_13_code
def yX0_markOfFully : MethodName := ⟨RX0, "markOfFully", "(LGrainWaves$Plate;I)I"⟩
abbrev cX0_markOfTorn : ByteArray := prog_2_method_14_code
def yX0_markOfTorn : MethodName := ⟨RX0, "markOfTorn", "(LGrainWaves$Plate;)I"⟩
def RX1 : String := "GrainWaves$Draft"
def TX1 : u_T := fun k => match k with
  | 0 => ("GrainWaves$Draft", "re", "[J", true)
  | _ => ("GrainWaves$Draft", "im", "[J", true)
def tyX1 : Nat → FieldType := fun k => match k with
  | 0 => .array .long
  | _ => .array .long
theorem nmX1 : ∀ a, a < 2 → ∀ b, b < 2 → a ≠ b → (TX1 a).2.1 ≠ (TX1 b).2.1 := by decide +kernel
theorem tyX1_ok : ∀ k, k < 2 → parseFieldDescriptor (TX1 k).2.2.1 = some (tyX1 k) := by decide +kernel
abbrev cX1_init : ByteArray := prog_3_method_1_code
def yX1_init : MethodName := ⟨RX1, "<init>", "()V"⟩
abbrev cX1_darken : ByteArray := prog_3_method_2_code
def yX1_darken : MethodName := ⟨RX1, "darken", "()V"⟩
abbrev cX1_start : ByteArray := prog_3_method_3_code
def yX1_start : MethodName := ⟨RX1, "start", "(LGrainWaves$Wave;)V"⟩
abbrev cX1_put : ByteArray := prog_3_method_4_code
def yX1_put : MethodName := ⟨RX1, "put", "(IJJ)V"⟩
abbrev cX1_addTurned : ByteArray := prog_3_method_5_code
def yX1_addTurned : MethodName := ⟨RX1, "addTurned", "(IJJI)V"⟩
abbrev cX1_addPlane : ByteArray := prog_3_method_6_code
def yX1_addPlane : MethodName := ⟨RX1, "addPlane", "(IIII)V"⟩
abbrev cX1_addWave : ByteArray := prog_3_method_7_code
def yX1_addWave : MethodName := ⟨RX1, "addWave", "(LGrainWaves$Wave;)V"⟩
abbrev cX1_turn : ByteArray := prog_3_method_8_code
def yX1_turn : MethodName := ⟨RX1, "turn", "(II)V"⟩
abbrev cX1_sendOn : ByteArray := prog_3_method_9_code
def yX1_sendOn : MethodName := ⟨RX1, "sendOn", "(LGrainWaves$Wave;I)V"⟩
abbrev cX1_shareBySixteen : ByteArray := prog_3_method_10_code
def yX1_shareBySixteen : MethodName := ⟨RX1, "shareBySixteen", "()Z"⟩
abbrev cX1_settle : ByteArray := prog_3_method_11_code
def yX1_settle : MethodName := ⟨RX1, "settle", "(LGrainWaves$Wave;)Z"⟩
def RX2 : String := "GrainWaves$Marks"
def TX2 : u_T := fun k => match k with
  | 0 => ("GrainWaves$Marks", "lower", "[I", true)
  | 1 => ("GrainWaves$Marks", "upper", "[I", true)
  | _ => ("GrainWaves$Marks", "spare", "[I", true)
def tyX2 : Nat → FieldType := fun k => match k with
  | 0 => .array .int
  | 1 => .array .int
  | _ => .array .int
theorem nmX2 : ∀ a, a < 3 → ∀ b, b < 3 → a ≠ b → (TX2 a).2.1 ≠ (TX2 b).2.1 := by decide +kernel
theorem tyX2_ok : ∀ k, k < 3 → parseFieldDescriptor (TX2 k).2.2.1 = some (tyX2 k) := by decide +kernel
abbrev cX2_init : ByteArray := prog_4_method_1_code
def yX2_init : MethodName := ⟨RX2, "<init>", "()V"⟩
abbrev cX2_howManyReach : ByteArray := prog_4_method_2_code
def yX2_howManyReach : MethodName := ⟨RX2, "howManyReach", "(LGrainWaves$Plate;I)I"⟩
abbrev cX2_sumUp : ByteArray := prog_4_method_3_code
def yX2_sumUp : MethodName := ⟨RX2, "sumUp", "(LGrainWaves$Plate;I[I)V"⟩
abbrev cX2_merge : ByteArray := prog_4_method_4_code
def yX2_merge : MethodName := ⟨RX2, "merge", "([III)V"⟩
def RX3 : String := "GrainWaves$Plate"
def TX3 : u_T := fun k => match k with
  | 0 => ("GrainWaves$Plate", "grains", "[I", true)
  | _ => ("GrainWaves$Plate", "step", "I", false)
def tyX3 : Nat → FieldType := fun k => match k with
  | 0 => .array .int
  | _ => .int
theorem nmX3 : ∀ a, a < 2 → ∀ b, b < 2 → a ≠ b → (TX3 a).2.1 ≠ (TX3 b).2.1 := by decide +kernel
theorem tyX3_ok : ∀ k, k < 2 → parseFieldDescriptor (TX3 k).2.2.1 = some (tyX3 k) := by decide +kernel
abbrev cX3_init : ByteArray := prog_5_method_1_code
def yX3_init : MethodName := ⟨RX3, "<init>", "()V"⟩
abbrev cX3_isMissing : ByteArray := prog_5_method_2_code
def yX3_isMissing : MethodName := ⟨RX3, "isMissing", "()Z"⟩
abbrev cX3_keepFringes : ByteArray := prog_5_method_3_code
def yX3_keepFringes : MethodName := ⟨RX3, "keepFringes", "(LGrainWaves$Wave;LGrainWaves$Wave;I)V"⟩
abbrev cX3_whiteOnes : ByteArray := prog_5_method_4_code
def yX3_whiteOnes : MethodName := ⟨RX3, "whiteOnes", "()I"⟩
abbrev cX3_lostOnes : ByteArray := prog_5_method_5_code
def yX3_lostOnes : MethodName := ⟨RX3, "lostOnes", "()I"⟩
abbrev cX3_howMany : ByteArray := prog_5_method_6_code
def yX3_howMany : MethodName := ⟨RX3, "howMany", "(I)I"⟩
abbrev cX3_shown : ByteArray := prog_5_method_7_code
def yX3_shown : MethodName := ⟨RX3, "shown", "(I)I"⟩
abbrev cX3_weight : ByteArray := prog_5_method_8_code
def yX3_weight : MethodName := ⟨RX3, "weight", "(I)J"⟩
abbrev cX3_total : ByteArray := prog_5_method_9_code
def yX3_total : MethodName := ⟨RX3, "total", "()I"⟩
abbrev cX3_totalWithin : ByteArray := prog_5_method_10_code
def yX3_totalWithin : MethodName := ⟨RX3, "totalWithin", "(I)I"⟩
abbrev cX3_greatest : ByteArray := prog_5_method_11_code
def yX3_greatest : MethodName := ⟨RX3, "greatest", "()I"⟩
abbrev cX3_kindTold : ByteArray := prog_5_method_12_code
def yX3_kindTold : MethodName := ⟨RX3, "kindTold", "()I"⟩
abbrev cX3_isOf : ByteArray := prog_5_method_13_code
def yX3_isOf : MethodName := ⟨RX3, "isOf", "(I)Z"⟩
abbrev cX3_kindAbove : ByteArray := prog_5_method_14_code
def yX3_kindAbove : MethodName := ⟨RX3, "kindAbove", "(I)I"⟩
def RX4 : String := "GrainWaves$Rows"
def TX4 : u_T := fun k => match k with
  | 0 => ("GrainWaves$Rows", "turns", "[I", true)
  | _ => ("GrainWaves$Rows", "number", "I", false)
def tyX4 : Nat → FieldType := fun k => match k with
  | 0 => .array .int
  | _ => .int
theorem nmX4 : ∀ a, a < 2 → ∀ b, b < 2 → a ≠ b → (TX4 a).2.1 ≠ (TX4 b).2.1 := by decide +kernel
theorem tyX4_ok : ∀ k, k < 2 → parseFieldDescriptor (TX4 k).2.2.1 = some (tyX4 k) := by decide +kernel
abbrev cX4_init : ByteArray := prog_6_method_1_code
def yX4_init : MethodName := ⟨RX4, "<init>", "()V"⟩
abbrev cX4_pick : ByteArray := prog_6_method_2_code
def yX4_pick : MethodName := ⟨RX4, "pick", "(I[III)I"⟩
abbrev cX4_howMany : ByteArray := prog_6_method_3_code
def yX4_howMany : MethodName := ⟨RX4, "howMany", "(I[IIZ)I"⟩
abbrev cX4_choices : ByteArray := prog_6_method_4_code
def yX4_choices : MethodName := ⟨RX4, "choices", "(I)I"⟩
abbrev cX4_spread : ByteArray := prog_6_method_5_code
def yX4_spread : MethodName := ⟨RX4, "spread", "(II)V"⟩
abbrev cX4_sends : ByteArray := prog_6_method_6_code
def yX4_sends : MethodName := ⟨RX4, "sends", "([II)Z"⟩
abbrev cX4_farBright : ByteArray := prog_6_method_7_code
def yX4_farBright : MethodName := ⟨RX4, "farBright", "(I)I"⟩
def RX5 : String := "GrainWaves$Script"
def TX5 : u_T := fun k => match k with
  | 0 => ("GrainWaves$Script", "verbs", "[I", true)
  | 1 => ("GrainWaves$Script", "numbers", "[I", true)
  | 2 => ("GrainWaves$Script", "acts", "I", false)
  | 3 => ("GrainWaves$Script", "faultNumber", "I", false)
  | _ => ("GrainWaves$Script", "faultPlace", "I", false)
def tyX5 : Nat → FieldType := fun k => match k with
  | 0 => .array .int
  | 1 => .array .int
  | 2 => .int
  | 3 => .int
  | _ => .int
theorem nmX5 : ∀ a, a < 5 → ∀ b, b < 5 → a ≠ b → (TX5 a).2.1 ≠ (TX5 b).2.1 := by decide +kernel
theorem tyX5_ok : ∀ k, k < 5 → parseFieldDescriptor (TX5 k).2.2.1 = some (tyX5 k) := by decide +kernel
abbrev cX5_init : ByteArray := prog_7_method_1_code
def yX5_init : MethodName := ⟨RX5, "<init>", "()V"⟩
abbrev cX5_readAll : ByteArray := prog_7_method_2_code
def yX5_readAll : MethodName := ⟨RX5, "readAll", "(LGrainWaves$Tape;)Z"⟩
abbrev cX5_readAct : ByteArray := prog_7_method_3_code
def yX5_readAct : MethodName := ⟨RX5, "readAct", "(LGrainWaves$Tape;)Z"⟩
abbrev cX5_faulty : ByteArray := prog_7_method_4_code
def yX5_faulty : MethodName := ⟨RX5, "faulty", "(LGrainWaves$Tape;I)Z"⟩
abbrev cX5_verbOf : ByteArray := prog_7_method_5_code
def yX5_verbOf : MethodName := ⟨RX5, "verbOf", "(LGrainWaves$Tape;)I"⟩
abbrev cX5_wordOf : ByteArray := prog_7_method_6_code
def yX5_wordOf : MethodName := ⟨RX5, "wordOf", "(I)Ljava/lang/String;"⟩
abbrev cX5_mostOf : ByteArray := prog_7_method_7_code
def yX5_mostOf : MethodName := ⟨RX5, "mostOf", "(I)[I"⟩
def RX6 : String := "GrainWaves$Sheet"
def TX6 : u_T := fun k => match k with
  | 0 => ("GrainWaves$Sheet", "items", "[I", true)
  | 1 => ("GrainWaves$Sheet", "lane", "I", false)
  | _ => ("GrainWaves$Sheet", "size", "I", false)
def tyX6 : Nat → FieldType := fun k => match k with
  | 0 => .array .int
  | 1 => .int
  | _ => .int
theorem nmX6 : ∀ a, a < 3 → ∀ b, b < 3 → a ≠ b → (TX6 a).2.1 ≠ (TX6 b).2.1 := by decide +kernel
theorem tyX6_ok : ∀ k, k < 3 → parseFieldDescriptor (TX6 k).2.2.1 = some (tyX6 k) := by decide +kernel
abbrev cX6_init : ByteArray := prog_8_method_1_code
def yX6_init : MethodName := ⟨RX6, "<init>", "()V"⟩
abbrev cX6_isMissing : ByteArray := prog_8_method_2_code
def yX6_isMissing : MethodName := ⟨RX6, "isMissing", "()Z"⟩
abbrev cX6_become : ByteArray := prog_8_method_3_code
def yX6_become : MethodName := ⟨RX6, "become", "(II)V"⟩
abbrev cX6_goMissing : ByteArray := prog_8_method_4_code
def yX6_goMissing : MethodName := ⟨RX6, "goMissing", "()V"⟩
abbrev cX6_reaches : ByteArray := prog_8_method_5_code
def yX6_reaches : MethodName := ⟨RX6, "reaches", "(II)Z"⟩
abbrev cX6_cut : ByteArray := prog_8_method_6_code
def yX6_cut : MethodName := ⟨RX6, "cut", "(I)I"⟩
def RX7 : String := "GrainWaves$Tape"
def TX7 : u_T := fun k => match k with
  | 0 => ("GrainWaves$Tape", "bytes", "[B", true)
  | 1 => ("GrainWaves$Tape", "length", "I", false)
  | 2 => ("GrainWaves$Tape", "start", "I", false)
  | 3 => ("GrainWaves$Tape", "end", "I", false)
  | 4 => ("GrainWaves$Tape", "sort", "I", false)
  | _ => ("GrainWaves$Tape", "value", "I", false)
def tyX7 : Nat → FieldType := fun k => match k with
  | 0 => .array .byte
  | 1 => .int
  | 2 => .int
  | 3 => .int
  | 4 => .int
  | _ => .int
theorem nmX7 : ∀ a, a < 6 → ∀ b, b < 6 → a ≠ b → (TX7 a).2.1 ≠ (TX7 b).2.1 := by decide +kernel
theorem tyX7_ok : ∀ k, k < 6 → parseFieldDescriptor (TX7 k).2.2.1 = some (tyX7 k) := by decide +kernel
abbrev cX7_init : ByteArray := prog_9_method_1_code
def yX7_init : MethodName := ⟨RX7, "<init>", "()V"⟩
abbrev cX7_append : ByteArray := prog_9_method_2_code
def yX7_append : MethodName := ⟨RX7, "append", "(JI)Z"⟩
abbrev cX7_empty : ByteArray := prog_9_method_3_code
def yX7_empty : MethodName := ⟨RX7, "empty", "()V"⟩
abbrev cX7_rewind : ByteArray := prog_9_method_4_code
def yX7_rewind : MethodName := ⟨RX7, "rewind", "()V"⟩
abbrev cX7_next : ByteArray := prog_9_method_5_code
def yX7_next : MethodName := ⟨RX7, "next", "()V"⟩
abbrev cX7_takeName : ByteArray := prog_9_method_6_code
def yX7_takeName : MethodName := ⟨RX7, "takeName", "()V"⟩
abbrev cX7_takeNumber : ByteArray := prog_9_method_7_code
def yX7_takeNumber : MethodName := ⟨RX7, "takeNumber", "()V"⟩
abbrev cX7_hasLetter : ByteArray := prog_9_method_8_code
def yX7_hasLetter : MethodName := ⟨RX7, "hasLetter", "(I)Z"⟩
abbrev cX7_hasFigure : ByteArray := prog_9_method_9_code
def yX7_hasFigure : MethodName := ⟨RX7, "hasFigure", "(I)Z"⟩
abbrev cX7_spells : ByteArray := prog_9_method_10_code
def yX7_spells : MethodName := ⟨RX7, "spells", "(Ljava/lang/String;)Z"⟩
def RX8 : String := "GrainWaves$Wave"
def TX8 : u_T := fun k => match k with
  | 0 => ("GrainWaves$Wave", "re", "[I", true)
  | _ => ("GrainWaves$Wave", "im", "[I", true)
def tyX8 : Nat → FieldType := fun k => match k with
  | 0 => .array .int
  | _ => .array .int
theorem nmX8 : ∀ a, a < 2 → ∀ b, b < 2 → a ≠ b → (TX8 a).2.1 ≠ (TX8 b).2.1 := by decide +kernel
theorem tyX8_ok : ∀ k, k < 2 → parseFieldDescriptor (TX8 k).2.2.1 = some (tyX8 k) := by decide +kernel
abbrev cX8_init : ByteArray := prog_10_method_1_code
def yX8_init : MethodName := ⟨RX8, "<init>", "()V"⟩
abbrev cX8_isLit : ByteArray := prog_10_method_2_code
def yX8_isLit : MethodName := ⟨RX8, "isLit", "()Z"⟩
def RX9 : String := "GrainWaves"
def TX9 : u_T := fun k => match k with
  | 0 => ("GrainWaves", "sheets", "[LGrainWaves$Sheet;", true)
  | 1 => ("GrainWaves", "waves", "[LGrainWaves$Wave;", true)
  | 2 => ("GrainWaves", "plates", "[LGrainWaves$Plate;", true)
  | 3 => ("GrainWaves", "draft", "LGrainWaves$Draft;", true)
  | 4 => ("GrainWaves", "tape", "LGrainWaves$Tape;", true)
  | 5 => ("GrainWaves", "script", "LGrainWaves$Script;", true)
  | 6 => ("GrainWaves", "rows", "LGrainWaves$Rows;", true)
  | 7 => ("GrainWaves", "marks", "LGrainWaves$Marks;", true)
  | 8 => ("GrainWaves", "asks", "LGrainWaves$Asks;", true)
  | 9 => ("GrainWaves", "latestFault", "I", false)
  | _ => ("GrainWaves", "latestFinding", "I", false)
def tyX9 : Nat → FieldType := fun k => match k with
  | 0 => .array (.object "GrainWaves$Sheet")
  | 1 => .array (.object "GrainWaves$Wave")
  | 2 => .array (.object "GrainWaves$Plate")
  | 3 => .object "GrainWaves$Draft"
  | 4 => .object "GrainWaves$Tape"
  | 5 => .object "GrainWaves$Script"
  | 6 => .object "GrainWaves$Rows"
  | 7 => .object "GrainWaves$Marks"
  | 8 => .object "GrainWaves$Asks"
  | 9 => .int
  | _ => .int
theorem nmX9 : ∀ a, a < 11 → ∀ b, b < 11 → a ≠ b → (TX9 a).2.1 ≠ (TX9 b).2.1 := by decide +kernel
theorem tyX9_ok : ∀ k, k < 11 → parseFieldDescriptor (TX9 k).2.2.1 = some (tyX9 k) := by decide +kernel
abbrev cX9_init : ByteArray := prog_1_method_1_code
def yX9_init : MethodName := ⟨RX9, "<init>", "()V"⟩
abbrev cX9_sheet : ByteArray := prog_1_method_2_code
def yX9_sheet : MethodName := ⟨RX9, "sheet", "(III)I"⟩
abbrev cX9_set : ByteArray := prog_1_method_3_code
def yX9_set : MethodName := ⟨RX9, "set", "(III)I"⟩
abbrev cX9_copy : ByteArray := prog_1_method_4_code
def yX9_copy : MethodName := ⟨RX9, "copy", "(IIIII)I"⟩
abbrev cX9_drop : ByteArray := prog_1_method_5_code
def yX9_drop : MethodName := ⟨RX9, "drop", "(I)I"⟩
abbrev cX9_feed : ByteArray := prog_1_method_6_code
def yX9_feed : MethodName := ⟨RX9, "feed", "(JI)I"⟩
abbrev cX9_run : ByteArray := prog_1_method_7_code
def yX9_run : MethodName := ⟨RX9, "run", "()I"⟩
abbrev cX9_fault : ByteArray := prog_1_method_8_code
def yX9_fault : MethodName := ⟨RX9, "fault", "()I"⟩
abbrev cX9_way : ByteArray := prog_1_method_9_code
def yX9_way : MethodName := ⟨RX9, "way", "(II)I"⟩
abbrev cX9_lay : ByteArray := prog_1_method_10_code
def yX9_lay : MethodName := ⟨RX9, "lay", "(III)I"⟩
abbrev cX9_part : ByteArray := prog_1_method_11_code
def yX9_part : MethodName := ⟨RX9, "part", "(III)I"⟩
abbrev cX9_bright : ByteArray := prog_1_method_12_code
def yX9_bright : MethodName := ⟨RX9, "bright", "(II)J"⟩
abbrev cX9_moved : ByteArray := prog_1_method_13_code
def yX9_moved : MethodName := ⟨RX9, "moved", "(III)I"⟩
abbrev cX9_take : ByteArray := prog_1_method_14_code
def yX9_take : MethodName := ⟨RX9, "take", "(IIII)I"⟩
abbrev cX9_lose : ByteArray := prog_1_method_15_code
def yX9_lose : MethodName := ⟨RX9, "lose", "(II)I"⟩
abbrev cX9_grain : ByteArray := prog_1_method_16_code
def yX9_grain : MethodName := ⟨RX9, "grain", "(II)I"⟩
abbrev cX9_read : ByteArray := prog_1_method_17_code
def yX9_read : MethodName := ⟨RX9, "read", "(III)I"⟩
abbrev cX9_parts : ByteArray := prog_1_method_18_code
def yX9_parts : MethodName := ⟨RX9, "parts", "(IIII)I"⟩
abbrev cX9_off : ByteArray := prog_1_method_19_code
def yX9_off : MethodName := ⟨RX9, "off", "(II)I"⟩
abbrev cX9_lack : ByteArray := prog_1_method_20_code
def yX9_lack : MethodName := ⟨RX9, "lack", "(III)J"⟩
abbrev cX9_fits : ByteArray := prog_1_method_21_code
def yX9_fits : MethodName := ⟨RX9, "fits", "(IIII)I"⟩
abbrev cX9_mark : ByteArray := prog_1_method_22_code
def yX9_mark : MethodName := ⟨RX9, "mark", "(III)I"⟩
abbrev cX9_aim : ByteArray := prog_1_method_23_code
def yX9_aim : MethodName := ⟨RX9, "aim", "(IIIII)I"⟩
abbrev cX9_kind : ByteArray := prog_1_method_24_code
def yX9_kind : MethodName := ⟨RX9, "kind", "(I)I"⟩
abbrev cX9_as : ByteArray := prog_1_method_25_code
def yX9_as : MethodName := ⟨RX9, "as", "(II)I"⟩
abbrev cX9_ask : ByteArray := prog_1_method_26_code
def yX9_ask : MethodName := ⟨RX9, "ask", "(II)I"⟩
abbrev cX9_trace : ByteArray := prog_1_method_27_code
def yX9_trace : MethodName := ⟨RX9, "trace", "(I)I"⟩
abbrev cX9_count : ByteArray := prog_1_method_28_code
def yX9_count : MethodName := ⟨RX9, "count", "(I)I"⟩
abbrev cX9_status : ByteArray := prog_1_method_29_code
def yX9_status : MethodName := ⟨RX9, "status", "()I"⟩
abbrev cX9_found : ByteArray := prog_1_method_30_code
def yX9_found : MethodName := ⟨RX9, "found", "(I)I"⟩
abbrev cX9_fine : ByteArray := prog_1_method_31_code
def yX9_fine : MethodName := ⟨RX9, "fine", "(I)I"⟩
abbrev cX9_below : ByteArray := prog_1_method_32_code
def yX9_below : MethodName := ⟨RX9, "below", "(II)Z"⟩
abbrev cX9_isSheet : ByteArray := prog_1_method_33_code
def yX9_isSheet : MethodName := ⟨RX9, "isSheet", "(I)Z"⟩
abbrev cX9_isWave : ByteArray := prog_1_method_34_code
def yX9_isWave : MethodName := ⟨RX9, "isWave", "(I)Z"⟩
abbrev cX9_isPlate : ByteArray := prog_1_method_35_code
def yX9_isPlate : MethodName := ⟨RX9, "isPlate", "(I)Z"⟩
abbrev cX9_sheetsThere : ByteArray := prog_1_method_36_code
def yX9_sheetsThere : MethodName := ⟨RX9, "sheetsThere", "()I"⟩
abbrev cX9_wavesLit : ByteArray := prog_1_method_37_code
def yX9_wavesLit : MethodName := ⟨RX9, "wavesLit", "()I"⟩
abbrev cX9_platesOf : ByteArray := prog_1_method_38_code
def yX9_platesOf : MethodName := ⟨RX9, "platesOf", "(I)I"⟩
abbrev cX9_square : ByteArray := prog_1_method_39_code
def yX9_square : MethodName := ⟨RX9, "square", "(I)I"⟩
abbrev cX9_brightOf : ByteArray := prog_1_method_40_code
def yX9_brightOf : MethodName := ⟨RX9, "brightOf", "(JJ)J"⟩
abbrev cX9_turnedRe : ByteArray := prog_1_method_41_code
def yX9_turnedRe : MethodName := ⟨RX9, "turnedRe", "(JJI)J"⟩
abbrev cX9_turnedIm : ByteArray := prog_1_method_42_code
def yX9_turnedIm : MethodName := ⟨RX9, "turnedIm", "(JJI)J"⟩
abbrev cX9_lean : ByteArray := prog_1_method_43_code
def yX9_lean : MethodName := ⟨RX9, "lean", "(III)I"⟩
abbrev cX9_placesTurned : ByteArray := prog_1_method_44_code
def yX9_placesTurned : MethodName := ⟨RX9, "placesTurned", "(III)I"⟩
abbrev cX9_sendPart : ByteArray := prog_1_method_45_code
def yX9_sendPart : MethodName := ⟨RX9, "sendPart", "(LGrainWaves$Wave;LGrainWaves$Wave;II)V"⟩
abbrev cX9_perform : ByteArray := prog_1_method_46_code
def yX9_perform : MethodName := ⟨RX9, "perform", "(II)Z"⟩
abbrev cX9_placeTold : ByteArray := prog_1_method_47_code
def yX9_placeTold : MethodName := ⟨RX9, "placeTold", "(I)I"⟩
def RX10 : String := "GrainWavesModel"
def TX10 : u_T := fun k => match k with
  | 0 => ("GrainWavesModel", "thrown", "I", false)
  | 1 => ("GrainWavesModel", "status", "I", false)
  | 2 => ("GrainWavesModel", "lane", "[I", true)
  | 3 => ("GrainWavesModel", "many", "[I", true)
  | 4 => ("GrainWavesModel", "item", "[I", true)
  | 5 => ("GrainWavesModel", "re", "[I", true)
  | 6 => ("GrainWavesModel", "im", "[I", true)
  | 7 => ("GrainWavesModel", "newRe", "[J", true)
  | 8 => ("GrainWavesModel", "newIm", "[J", true)
  | 9 => ("GrainWavesModel", "tape", "[I", true)
  | 10 => ("GrainWavesModel", "taped", "I", false)
  | 11 => ("GrainWavesModel", "latest", "I", false)
  | 12 => ("GrainWavesModel", "size", "I", false)
  | 13 => ("GrainWavesModel", "cursor", "I", false)
  | 14 => ("GrainWavesModel", "token", "I", false)
  | 15 => ("GrainWavesModel", "from", "I", false)
  | 16 => ("GrainWavesModel", "till", "I", false)
  | 17 => ("GrainWavesModel", "fault", "I", false)
  | 18 => ("GrainWavesModel", "faultAt", "I", false)
  | 19 => ("GrainWavesModel", "isDone", "Z", false)
  | 20 => ("GrainWavesModel", "done", "I", false)
  | 21 => ("GrainWavesModel", "steps", "[I", true)
  | 22 => ("GrainWavesModel", "grain", "[I", true)
  | 23 => ("GrainWavesModel", "trace", "[I", true)
  | _ => ("GrainWavesModel", "traced", "I", false)
def tyX10 : Nat → FieldType := fun k => match k with
  | 0 => .int
  | 1 => .int
  | 2 => .array .int
  | 3 => .array .int
  | 4 => .array .int
  | 5 => .array .int
  | 6 => .array .int
  | 7 => .array .long
  | 8 => .array .long
  | 9 => .array .int
  | 10 => .int
  | 11 => .int
  | 12 => .int
  | 13 => .int
  | 14 => .int
  | 15 => .int
  | 16 => .int
  | 17 => .int
  | 18 => .int
  | 19 => .boolean
  | 20 => .int
  | 21 => .array .int
  | 22 => .array .int
  | 23 => .array .int
  | _ => .int
theorem nmX10 : ∀ a, a < 25 → ∀ b, b < 25 → a ≠ b → (TX10 a).2.1 ≠ (TX10 b).2.1 := by decide +kernel
theorem tyX10_ok : ∀ k, k < 25 → parseFieldDescriptor (TX10 k).2.2.1 = some (tyX10 k) := by decide +kernel
abbrev cX10_init : ByteArray := prog_12_method_1_code
def yX10_init : MethodName := ⟨RX10, "<init>", "()V"⟩
abbrev cX10_in : ByteArray := prog_12_method_3_code
def yX10_in : MethodName := ⟨RX10, "in", "(JJJ)Z"⟩
abbrev cX10_finding : ByteArray := prog_12_method_4_code
def yX10_finding : MethodName := ⟨RX10, "finding", "(I)I"⟩
abbrev cX10_isSheet : ByteArray := prog_12_method_5_code
def yX10_isSheet : MethodName := ⟨RX10, "isSheet", "(I)Z"⟩
abbrev cX10_sheet : ByteArray := prog_12_method_6_code
def yX10_sheet : MethodName := ⟨RX10, "sheet", "(III)I"⟩
abbrev cX10_set : ByteArray := prog_12_method_7_code
def yX10_set : MethodName := ⟨RX10, "set", "(III)I"⟩
abbrev cX10_copy : ByteArray := prog_12_method_8_code
def yX10_copy : MethodName := ⟨RX10, "copy", "(IIIII)I"⟩
abbrev cX10_drop : ByteArray := prog_12_method_9_code
def yX10_drop : MethodName := ⟨RX10, "drop", "(I)I"⟩
abbrev cX10_lookItems : ByteArray := prog_12_method_10_code
def yX10_lookItems : MethodName := ⟨RX10, "lookItems", "(III)I"⟩
abbrev cX10_isWave : ByteArray := prog_12_method_11_code
def yX10_isWave : MethodName := ⟨RX10, "isWave", "(I)Z"⟩
abbrev cX10_isPlace : ByteArray := prog_12_method_12_code
def yX10_isPlace : MethodName := ⟨RX10, "isPlace", "(I)Z"⟩
abbrev cX10_turnedRe : ByteArray := prog_12_method_13_code
def yX10_turnedRe : MethodName := ⟨RX10, "turnedRe", "(JJI)J"⟩
abbrev cX10_turnedIm : ByteArray := prog_12_method_14_code
def yX10_turnedIm : MethodName := ⟨RX10, "turnedIm", "(JJI)J"⟩
abbrev cX10_asItIs : ByteArray := prog_12_method_15_code
def yX10_asItIs : MethodName := ⟨RX10, "asItIs", "(I)V"⟩
abbrev cX10_isMade : ByteArray := prog_12_method_16_code
def yX10_isMade : MethodName := ⟨RX10, "isMade", "(I)Z"⟩
abbrev cX10_goWay : ByteArray := prog_12_method_17_code
def yX10_goWay : MethodName := ⟨RX10, "goWay", "(IZ)V"⟩
abbrev cX10_way : ByteArray := prog_12_method_18_code
def yX10_way : MethodName := ⟨RX10, "way", "(II)I"⟩
abbrev cX10_lay : ByteArray := prog_12_method_19_code
def yX10_lay : MethodName := ⟨RX10, "lay", "(III)I"⟩
abbrev cX10_part : ByteArray := prog_12_method_20_code
def yX10_part : MethodName := ⟨RX10, "part", "(III)I"⟩
abbrev cX10_brightOf : ByteArray := prog_12_method_21_code
def yX10_brightOf : MethodName := ⟨RX10, "brightOf", "(II)J"⟩
abbrev cX10_bright : ByteArray := prog_12_method_22_code
def yX10_bright : MethodName := ⟨RX10, "bright", "(II)J"⟩
abbrev cX10_moved : ByteArray := prog_12_method_23_code
def yX10_moved : MethodName := ⟨RX10, "moved", "(III)I"⟩
abbrev cX10_feed : ByteArray := prog_12_method_24_code
def yX10_feed : MethodName := ⟨RX10, "feed", "(JI)I"⟩
abbrev cX10_byteAt : ByteArray := prog_12_method_25_code
def yX10_byteAt : MethodName := ⟨RX10, "byteAt", "(I)I"⟩
abbrev cX10_isLetter : ByteArray := prog_12_method_26_code
def yX10_isLetter : MethodName := ⟨RX10, "isLetter", "(I)Z"⟩
abbrev cX10_isFigure : ByteArray := prog_12_method_27_code
def yX10_isFigure : MethodName := ⟨RX10, "isFigure", "(I)Z"⟩
abbrev cX10_step : ByteArray := prog_12_method_28_code
def yX10_step : MethodName := ⟨RX10, "step", "()V"⟩
abbrev cX10_bad : ByteArray := prog_12_method_29_code
def yX10_bad : MethodName := ⟨RX10, "bad", "(I)V"⟩
abbrev cX10_must : ByteArray := prog_12_method_30_code
def yX10_must : MethodName := ⟨RX10, "must", "(Z)V"⟩
abbrev cX10_word : ByteArray := prog_12_method_31_code
def yX10_word : MethodName := ⟨RX10, "word", "()J"⟩
abbrev cX10_numberTo : ByteArray := prog_12_method_32_code
def yX10_numberTo : MethodName := ⟨RX10, "numberTo", "(I)I"⟩
abbrev cX10_act : ByteArray := prog_12_method_33_code
def yX10_act : MethodName := ⟨RX10, "act", "(JIIIII)V"⟩
abbrev cX10_readAct : ByteArray := prog_12_method_34_code
def yX10_readAct : MethodName := ⟨RX10, "readAct", "()V"⟩
abbrev cX10_readAll : ByteArray := prog_12_method_35_code
def yX10_readAll : MethodName := ⟨RX10, "readAll", "()V"⟩
abbrev cX10_run : ByteArray := prog_12_method_36_code
def yX10_run : MethodName := ⟨RX10, "run", "()I"⟩
abbrev cX10_fault : ByteArray := prog_12_method_37_code
def yX10_fault : MethodName := ⟨RX10, "fault", "()I"⟩
abbrev cX10_isPlate : ByteArray := prog_12_method_38_code
def yX10_isPlate : MethodName := ⟨RX10, "isPlate", "(I)Z"⟩
abbrev cX10_lookAt : ByteArray := prog_12_method_39_code
def yX10_lookAt : MethodName := ⟨RX10, "lookAt", "(I)I"⟩
abbrev cX10_take : ByteArray := prog_12_method_40_code
def yX10_take : MethodName := ⟨RX10, "take", "(IIII)I"⟩
abbrev cX10_told : ByteArray := prog_12_method_41_code
def yX10_told : MethodName := ⟨RX10, "told", "(I)I"⟩
abbrev cX10_lose : ByteArray := prog_12_method_42_code
def yX10_lose : MethodName := ⟨RX10, "lose", "(II)I"⟩
abbrev cX10_grain : ByteArray := prog_12_method_43_code
def yX10_grain : MethodName := ⟨RX10, "grain", "(II)I"⟩
abbrev cX10_sends : ByteArray := prog_12_method_44_code
def yX10_sends : MethodName := ⟨RX10, "sends", "(II)J"⟩
abbrev cX10_read : ByteArray := prog_12_method_45_code
def yX10_read : MethodName := ⟨RX10, "read", "(III)I"⟩
abbrev cX10_parts : ByteArray := prog_12_method_46_code
def yX10_parts : MethodName := ⟨RX10, "parts", "(IIII)I"⟩
abbrev cX10_lostOn : ByteArray := prog_12_method_47_code
def yX10_lostOn : MethodName := ⟨RX10, "lostOn", "(I)I"⟩
abbrev cX10_off : ByteArray := prog_12_method_48_code
def yX10_off : MethodName := ⟨RX10, "off", "(II)I"⟩
abbrev cX10_length : ByteArray := prog_12_method_49_code
def yX10_length : MethodName := ⟨RX10, "length", "(J)J"⟩
abbrev cX10_lack : ByteArray := prog_12_method_50_code
def yX10_lack : MethodName := ⟨RX10, "lack", "(III)J"⟩
abbrev cX10_isFit : ByteArray := prog_12_method_51_code
def yX10_isFit : MethodName := ⟨RX10, "isFit", "(III)Z"⟩
abbrev cX10_fits : ByteArray := prog_12_method_52_code
def yX10_fits : MethodName := ⟨RX10, "fits", "(IIII)I"⟩
abbrev cX10_sumOf : ByteArray := prog_12_method_53_code
def yX10_sumOf : MethodName := ⟨RX10, "sumOf", "(II)I"⟩
abbrev cX10_mark : ByteArray := prog_12_method_54_code
def yX10_mark : MethodName := ⟨RX10, "mark", "(III)I"⟩
abbrev cX10_aim : ByteArray := prog_12_method_55_code
def yX10_aim : MethodName := ⟨RX10, "aim", "(IIIII)I"⟩
abbrev cX10_kindOf : ByteArray := prog_12_method_56_code
def yX10_kindOf : MethodName := ⟨RX10, "kindOf", "(I)I"⟩
abbrev cX10_isOf : ByteArray := prog_12_method_57_code
def yX10_isOf : MethodName := ⟨RX10, "isOf", "(II)Z"⟩
abbrev cX10_kind : ByteArray := prog_12_method_58_code
def yX10_kind : MethodName := ⟨RX10, "kind", "(I)I"⟩
abbrev cX10_as : ByteArray := prog_12_method_59_code
def yX10_as : MethodName := ⟨RX10, "as", "(II)I"⟩
abbrev cX10_began : ByteArray := prog_12_method_60_code
def yX10_began : MethodName := ⟨RX10, "began", "(I)V"⟩
abbrev cX10_clearSize : ByteArray := prog_12_method_61_code
def yX10_clearSize : MethodName := ⟨RX10, "clearSize", "(II)I"⟩
abbrev cX10_markOf : ByteArray := prog_12_method_62_code
def yX10_markOf : MethodName := ⟨RX10, "markOf", "(II)I"⟩
abbrev cX10_tornSize : ByteArray := prog_12_method_63_code
def yX10_tornSize : MethodName := ⟨RX10, "tornSize", "(II)I"⟩
abbrev cX10_ask : ByteArray := prog_12_method_64_code
def yX10_ask : MethodName := ⟨RX10, "ask", "(II)I"⟩
abbrev cX10_trace : ByteArray := prog_12_method_65_code
def yX10_trace : MethodName := ⟨RX10, "trace", "(I)I"⟩
abbrev cX10_count : ByteArray := prog_12_method_66_code
def yX10_count : MethodName := ⟨RX10, "count", "(I)I"⟩
abbrev cX10_status : ByteArray := prog_12_method_67_code
def yX10_status : MethodName := ⟨RX10, "status", "()I"⟩
def RJ6 : String := "java/lang/Integer"
def TJ6 : u_T := fun k => match k with
  | _ => ("", "", "", false)
def tyJ6 : Nat → FieldType := fun k => match k with
  | _ => .int
theorem nmJ6 : ∀ a, a < 0 → ∀ b, b < 0 → a ≠ b → (TJ6 a).2.1 ≠ (TJ6 b).2.1 := by decide +kernel
theorem tyJ6_ok : ∀ k, k < 0 → parseFieldDescriptor (TJ6 k).2.2.1 = some (tyJ6 k) := by decide +kernel
abbrev cJ6_bitCount_0f7a4 : ByteArray := prog_13_method_49_code
def yJ6_bitCount_0f7a4 : MethodName := ⟨RJ6, "bitCount", "(I)I"⟩
def RJ9 : String := "java/lang/Math"
def TJ9 : u_T := fun k => match k with
  | _ => ("", "", "", false)
def tyJ9 : Nat → FieldType := fun k => match k with
  | _ => .int
theorem nmJ9 : ∀ a, a < 0 → ∀ b, b < 0 → a ≠ b → (TJ9 a).2.1 ≠ (TJ9 b).2.1 := by decide +kernel
theorem tyJ9_ok : ∀ k, k < 0 → parseFieldDescriptor (TJ9 k).2.2.1 = some (tyJ9 k) := by decide +kernel
abbrev cJ9_abs_0f7a4 : ByteArray := prog_14_method_59_code
def yJ9_abs_0f7a4 : MethodName := ⟨RJ9, "abs", "(I)I"⟩
abbrev cJ9_abs_067f4 : ByteArray := prog_14_method_61_code
def yJ9_abs_067f4 : MethodName := ⟨RJ9, "abs", "(J)J"⟩
abbrev cJ9_max_7cf53 : ByteArray := prog_14_method_65_code
def yJ9_max_7cf53 : MethodName := ⟨RJ9, "max", "(II)I"⟩
abbrev cJ9_min_f86c9 : ByteArray := prog_14_method_70_code
def yJ9_min_f86c9 : MethodName := ⟨RJ9, "min", "(JJ)J"⟩
def RJ0 : String := "java/lang/String"
def TJ0 : u_T := fun k => match k with
  | _ => ("", "", "", false)
def tyJ0 : Nat → FieldType := fun k => match k with
  | _ => .int
theorem nmJ0 : ∀ a, a < 0 → ∀ b, b < 0 → a ≠ b → (TJ0 a).2.1 ≠ (TJ0 b).2.1 := by decide +kernel
theorem tyJ0_ok : ∀ k, k < 0 → parseFieldDescriptor (TJ0 k).2.2.1 = some (tyJ0 k) := by decide +kernel
abbrev cJ0_length_8abf5 : ByteArray := prog_15_method_54_code
def yJ0_length_8abf5 : MethodName := ⟨RJ0, "length", "()I"⟩
abbrev cJ0_charAt_5068e : ByteArray := prog_15_method_56_code
def yJ0_charAt_5068e : MethodName := ⟨RJ0, "charAt", "(I)C"⟩
abbrev cJ0_coder_7d493 : ByteArray := prog_15_method_152_code
def yJ0_coder_7d493 : MethodName := ⟨RJ0, "coder", "()B"⟩
abbrev cJ0_isLatin1_aae02 : ByteArray := prog_15_method_154_code
def yJ0_isLatin1_aae02 : MethodName := ⟨RJ0, "isLatin1", "()Z"⟩
abbrev cJ0_checkIndex_df160 : ByteArray := prog_15_method_155_code
def yJ0_checkIndex_df160 : MethodName := ⟨RJ0, "checkIndex", "(II)V"⟩
def RJ1 : String := "java/lang/StringLatin1"
def TJ1 : u_T := fun k => match k with
  | _ => ("", "", "", false)
def tyJ1 : Nat → FieldType := fun k => match k with
  | _ => .int
theorem nmJ1 : ∀ a, a < 0 → ∀ b, b < 0 → a ≠ b → (TJ1 a).2.1 ≠ (TJ1 b).2.1 := by decide +kernel
theorem tyJ1_ok : ∀ k, k < 0 → parseFieldDescriptor (TJ1 k).2.2.1 = some (tyJ1 k) := by decide +kernel
abbrev cJ1_charAt_3b067 : ByteArray := prog_16_method_2_code
def yJ1_charAt_3b067 : MethodName := ⟨RJ1, "charAt", "([BI)C"⟩
def RJ2 : String := "java/lang/StringUTF16"
def TJ2 : u_T := fun k => match k with
  | _ => ("", "", "", false)
def tyJ2 : Nat → FieldType := fun k => match k with
  | _ => .int
theorem nmJ2 : ∀ a, a < 0 → ∀ b, b < 0 → a ≠ b → (TJ2 a).2.1 ≠ (TJ2 b).2.1 := by decide +kernel
theorem tyJ2_ok : ∀ k, k < 0 → parseFieldDescriptor (TJ2 k).2.2.1 = some (tyJ2 k) := by decide +kernel
abbrev cJ2_getChar_3b067 : ByteArray := prog_17_method_5_code
def yJ2_getChar_3b067 : MethodName := ⟨RJ2, "getChar", "([BI)C"⟩
abbrev cJ2_length_9d52b : ByteArray := prog_17_method_6_code
def yJ2_length_9d52b : MethodName := ⟨RJ2, "length", "([B)I"⟩
abbrev cJ2_charAt_3b067 : ByteArray := prog_17_method_83_code
def yJ2_charAt_3b067 : MethodName := ⟨RJ2, "charAt", "([BI)C"⟩
abbrev cJ2_checkIndex_2214a : ByteArray := prog_17_method_91_code
def yJ2_checkIndex_2214a : MethodName := ⟨RJ2, "checkIndex", "(I[B)V"⟩
def RJ10 : String := "java/lang/System"
def TJ10 : u_T := fun k => match k with
  | _ => ("", "", "", false)
def tyJ10 : Nat → FieldType := fun k => match k with
  | _ => .int
theorem nmJ10 : ∀ a, a < 0 → ∀ b, b < 0 → a ≠ b → (TJ10 a).2.1 ≠ (TJ10 b).2.1 := by decide +kernel
theorem tyJ10_ok : ∀ k, k < 0 → parseFieldDescriptor (TJ10 k).2.2.1 = some (tyJ10 k) := by decide +kernel
def RJ7 : String := "java/util/Arrays"
def TJ7 : u_T := fun k => match k with
  | _ => ("", "", "", false)
def tyJ7 : Nat → FieldType := fun k => match k with
  | _ => .int
theorem nmJ7 : ∀ a, a < 0 → ∀ b, b < 0 → a ≠ b → (TJ7 a).2.1 ≠ (TJ7 b).2.1 := by decide +kernel
theorem tyJ7_ok : ∀ k, k < 0 → parseFieldDescriptor (TJ7 k).2.2.1 = some (tyJ7 k) := by decide +kernel
abbrev cJ7_fill_d0a16 : ByteArray := prog_19_method_101_code
def yJ7_fill_d0a16 : MethodName := ⟨RJ7, "fill", "([JJ)V"⟩
abbrev cJ7_fill_53178 : ByteArray := prog_19_method_103_code
def yJ7_fill_53178 : MethodName := ⟨RJ7, "fill", "([II)V"⟩
def RJ3 : String := "jdk/internal/util/Preconditions"
def TJ3 : u_T := fun k => match k with
  | _ => ("", "", "", false)
def tyJ3 : Nat → FieldType := fun k => match k with
  | _ => .int
theorem nmJ3 : ∀ a, a < 0 → ∀ b, b < 0 → a ≠ b → (TJ3 a).2.1 ≠ (TJ3 b).2.1 := by decide +kernel
theorem tyJ3_ok : ∀ k, k < 0 → parseFieldDescriptor (TJ3 k).2.2.1 = some (tyJ3 k) := by decide +kernel
abbrev cJ3_checkIndex_8e157 : ByteArray := prog_20_method_11_code
def yJ3_checkIndex_8e157 : MethodName := ⟨RJ3, "checkIndex", "(IILjava/util/function/BiFunction;)I"⟩
def RL : String := "GrainWavesLaw"
abbrev cL_law : ByteArray := code
def yL_law : MethodName := ⟨RL, "law", "([I)Z"⟩
end
section
/-! families of cells: 0 .. 10 the objects of the classes X0 .. X10, 11 .. 38 arrays, 40 .. 46 static tables, 50, 51 texts and their bytes, 52 a value that is only carried -/
abbrev gAV : Type := Int32 ⊕ Int64 ⊕ (Nat × Nat)
abbrev gLo : Type := List (Option gAV)
abbrev gSk : Type := List gAV
abbrev gT : Type := (Nat → Nat → Nat → Int32) × (Nat → Nat → Nat → Int64)
abbrev gK : Type := Nat → gLo → gSk → gT → Prop
abbrev gMY : Type := MethodName × ByteArray × Nat × Option FieldType

abbrev gCl : List vw_C := [(RX0, TX0, 2), (RX1, TX1, 2), (RX2, TX2, 3), (RX3, TX3, 2), (RX4, TX4, 2), (RX5, TX5, 5), (RX6, TX6, 3), (RX7, TX7, 6), (RX8, TX8, 2), (RX9, TX9, 11), (RX10, TX10, 25)]
def gWs : List Cond := lw_tbl.filter goodWord
def gcn : Nat → String := fun o => match o with
  | 0 => RX0
  | 1 => RX1
  | 2 => RX2
  | 3 => RX3
  | 4 => RX4
  | 5 => RX5
  | 6 => RX6
  | 7 => RX7
  | 8 => RX8
  | 9 => RX9
  | 10 => RX10
  | 11 => RL
  | 12 => RJ6
  | 13 => RJ9
  | 14 => RJ0
  | 15 => RJ1
  | 16 => RJ2
  | 17 => RJ7
  | 18 => RJ3
  | 19 => RJ10
  | _ => ""
/-- the kinds of the fields of a class: 0 an int, 1 a boolean, g + 2 a cell of family g -/
def gF : Nat → List Nat := fun o => match o with
  | 0 => [13, 0]
  | 1 => [14, 15]
  | 2 => [16, 17, 18]
  | 3 => [19, 0]
  | 4 => [20, 0]
  | 5 => [21, 22, 0, 0, 0]
  | 6 => [23, 0, 0]
  | 7 => [24, 0, 0, 0, 0, 0]
  | 8 => [25, 26]
  | 9 => [27, 28, 29, 3, 9, 7, 6, 4, 2, 0, 0]
  | 10 => [0, 0, 30, 31, 32, 33, 34, 35, 36, 37, 0, 0, 0, 0, 0, 0, 0, 0, 0, 1, 0, 38, 39, 40, 0]
  | _ => []
def gFin : Nat → List Bool := fun o => match o with
  | 0 => [true, false]
  | 1 => [true, true]
  | 2 => [true, true, true]
  | 3 => [true, false]
  | 4 => [true, false]
  | 5 => [true, true, false, false, false]
  | 6 => [true, false, false]
  | 7 => [true, false, false, false, false, false]
  | 8 => [true, true]
  | 9 => [true, true, true, true, true, true, true, true, true, false, false]
  | 10 => [false, false, true, true, true, true, true, true, true, true, false, false, false, false, false, false, false, false, false, false, false, true, true, true, false]
  | _ => []
/-- how many cells a family has -/
def gN : Nat → Nat := fun f => match f with
  | 0 => 1
  | 1 => 1
  | 2 => 1
  | 3 => 6
  | 4 => 1
  | 5 => 1
  | 6 => 8
  | 7 => 1
  | 8 => 8
  | 9 => 1
  | 10 => 1
  | 11 => 1
  | 12 => 1
  | 13 => 1
  | 14 => 1
  | 15 => 1
  | 16 => 1
  | 17 => 6
  | 18 => 1
  | 19 => 1
  | 20 => 1
  | 21 => 8
  | 22 => 1
  | 23 => 8
  | 24 => 8
  | 25 => 1
  | 26 => 1
  | 27 => 1
  | 28 => 1
  | 29 => 1
  | 30 => 1
  | 31 => 1
  | 32 => 1
  | 33 => 1
  | 34 => 1
  | 35 => 1
  | 36 => 1
  | 37 => 1
  | 38 => 1
  | 40 => 1
  | 41 => 1
  | 42 => 1
  | 43 => 1
  | 44 => 1
  | 45 => 1
  | 46 => 1
  | 50 => 7
  | 51 => 7
  | 52 => 1
  | _ => 0
/-- arrays: kind (0 int, 1 byte, 2 long, 3 and on of cells), length, family of what it holds -/
def gA : Nat → Option (Nat × Nat × Nat) := fun f => match f with
  | 11 => some (0, 16, 0)
  | 12 => some (2, 16, 0)
  | 13 => some (2, 16, 0)
  | 14 => some (0, 256, 0)
  | 15 => some (0, 256, 0)
  | 16 => some (0, 256, 0)
  | 17 => some (0, 16, 0)
  | 18 => some (0, 4, 0)
  | 19 => some (0, 80, 0)
  | 20 => some (0, 400, 0)
  | 21 => some (0, 64, 0)
  | 22 => some (1, 400, 0)
  | 23 => some (0, 16, 0)
  | 24 => some (0, 16, 0)
  | 25 => some (3, 8, 6)
  | 26 => some (4, 8, 8)
  | 27 => some (5, 6, 3)
  | 28 => some (0, 8, 0)
  | 29 => some (0, 8, 0)
  | 30 => some (0, 512, 0)
  | 31 => some (0, 128, 0)
  | 32 => some (0, 128, 0)
  | 33 => some (2, 16, 0)
  | 34 => some (2, 16, 0)
  | 35 => some (0, 400, 0)
  | 36 => some (0, 6, 0)
  | 37 => some (0, 96, 0)
  | 38 => some (0, 16, 0)
  | _ => none
def gSV : Nat → List Int32 := fun f => match f with
  | 40 => [7, 3, 3, 1000, 3]
  | 41 => [7, 3, 3]
  | 42 => [7, 3, 3, 3]
  | 43 => [7, 7]
  | 44 => [7]
  | 45 => [1, 0, (-1), 0]
  | 46 => [0, 1, 0, (-1)]
  | _ => []
def gLen : List Nat := [5, 5, 3, 4, 3, 3, 4]
def gByt : List (List Int32) := [[112, 111, 105, 110, 116], [112, 108, 97, 110, 101], [100, 105, 109], [116, 117, 114, 110], [97, 100, 100], [119, 97, 121], [119, 105, 112, 101]]
abbrev myX0_init : gMY := (yX0_init, cX0_init, 1, none)
abbrev myX0_forget : gMY := (yX0_forget, cX0_forget, 1, none)
abbrev myX0_begin : gMY := (yX0_begin, cX0_begin, 2, none)
abbrev myX0_sizeAsked : gMY := (yX0_sizeAsked, cX0_sizeAsked, 3, (some .int))
abbrev myX0_markAsked : gMY := (yX0_markAsked, cX0_markAsked, 3, (some .int))
abbrev myX0_sizeLent : gMY := (yX0_sizeLent, cX0_sizeLent, 2, (some .int))
abbrev myX0_sizeOfClear : gMY := (yX0_sizeOfClear, cX0_sizeOfClear, 2, (some .int))
abbrev myX0_sizeOfFully : gMY := (yX0_sizeOfFully, cX0_sizeOfFully, 2, (some .int))
abbrev myX0_sizeOfTorn : gMY := (yX0_sizeOfTorn, cX0_sizeOfTorn, 4, (some .int))
abbrev myX0_sizeOfBlind : gMY := (yX0_sizeOfBlind, cX0_sizeOfBlind, 3, (some .int))
abbrev myX0_markLent : gMY := (yX0_markLent, cX0_markLent, 2, (some .int))
abbrev myX0_markOfClear : gMY := (yX0_markOfClear, cX0_markOfClear, 2, (some .int))
abbrev myX0_markOfFully : gMY := (yX0_markOfFully, cX0_markOfFully, 4, (some .int))
abbrev myX0_markOfTorn : gMY := (yX0_markOfTorn, cX0_markOfTorn, 2, (some .int))
abbrev myX1_init : gMY := (yX1_init, cX1_init, 1, none)
abbrev myX1_darken : gMY := (yX1_darken, cX1_darken, 1, none)
abbrev myX1_start : gMY := (yX1_start, cX1_start, 3, none)
abbrev myX1_put : gMY := (yX1_put, cX1_put, 6, none)
abbrev myX1_addTurned : gMY := (yX1_addTurned, cX1_addTurned, 7, none)
abbrev myX1_addPlane : gMY := (yX1_addPlane, cX1_addPlane, 6, none)
abbrev myX1_addWave : gMY := (yX1_addWave, cX1_addWave, 3, none)
abbrev myX1_turn : gMY := (yX1_turn, cX1_turn, 3, none)
abbrev myX1_sendOn : gMY := (yX1_sendOn, cX1_sendOn, 6, none)
abbrev myX1_shareBySixteen : gMY := (yX1_shareBySixteen, cX1_shareBySixteen, 2, (some .boolean))
abbrev myX1_settle : gMY := (yX1_settle, cX1_settle, 3, (some .boolean))
abbrev myX2_init : gMY := (yX2_init, cX2_init, 1, none)
abbrev myX2_howManyReach : gMY := (yX2_howManyReach, cX2_howManyReach, 6, (some .int))
abbrev myX2_sumUp : gMY := (yX2_sumUp, cX2_sumUp, 5, none)
abbrev myX2_merge : gMY := (yX2_merge, cX2_merge, 7, none)
abbrev myX3_init : gMY := (yX3_init, cX3_init, 1, none)
abbrev myX3_isMissing : gMY := (yX3_isMissing, cX3_isMissing, 1, (some .boolean))
abbrev myX3_keepFringes : gMY := (yX3_keepFringes, cX3_keepFringes, 7, none)
abbrev myX3_whiteOnes : gMY := (yX3_whiteOnes, cX3_whiteOnes, 1, (some .int))
abbrev myX3_lostOnes : gMY := (yX3_lostOnes, cX3_lostOnes, 1, (some .int))
abbrev myX3_howMany : gMY := (yX3_howMany, cX3_howMany, 4, (some .int))
abbrev myX3_shown : gMY := (yX3_shown, cX3_shown, 2, (some .int))
abbrev myX3_weight : gMY := (yX3_weight, cX3_weight, 2, (some .long))
abbrev myX3_total : gMY := (yX3_total, cX3_total, 1, (some .int))
abbrev myX3_totalWithin : gMY := (yX3_totalWithin, cX3_totalWithin, 4, (some .int))
abbrev myX3_greatest : gMY := (yX3_greatest, cX3_greatest, 3, (some .int))
abbrev myX3_kindTold : gMY := (yX3_kindTold, cX3_kindTold, 2, (some .int))
abbrev myX3_isOf : gMY := (yX3_isOf, cX3_isOf, 3, (some .boolean))
abbrev myX3_kindAbove : gMY := (yX3_kindAbove, cX3_kindAbove, 1, (some .int))
abbrev myX4_init : gMY := (yX4_init, cX4_init, 1, none)
abbrev myX4_pick : gMY := (yX4_pick, cX4_pick, 7, (some .int))
abbrev myX4_howMany : gMY := (yX4_howMany, cX4_howMany, 7, (some .int))
abbrev myX4_choices : gMY := (yX4_choices, cX4_choices, 1, (some .int))
abbrev myX4_spread : gMY := (yX4_spread, cX4_spread, 6, none)
abbrev myX4_sends : gMY := (yX4_sends, cX4_sends, 4, (some .boolean))
abbrev myX4_farBright : gMY := (yX4_farBright, cX4_farBright, 6, (some .int))
abbrev myX5_init : gMY := (yX5_init, cX5_init, 1, none)
abbrev myX5_readAll : gMY := (yX5_readAll, cX5_readAll, 2, (some .boolean))
abbrev myX5_readAct : gMY := (yX5_readAct, cX5_readAct, 5, (some .boolean))
abbrev myX5_faulty : gMY := (yX5_faulty, cX5_faulty, 3, (some .boolean))
abbrev myX5_verbOf : gMY := (yX5_verbOf, cX5_verbOf, 2, (some .int))
abbrev myX5_wordOf : gMY := (yX5_wordOf, cX5_wordOf, 1, (some (.object "java/lang/String")))
abbrev myX5_mostOf : gMY := (yX5_mostOf, cX5_mostOf, 1, (some (.array .int)))
abbrev myX6_init : gMY := (yX6_init, cX6_init, 1, none)
abbrev myX6_isMissing : gMY := (yX6_isMissing, cX6_isMissing, 1, (some .boolean))
abbrev myX6_become : gMY := (yX6_become, cX6_become, 3, none)
abbrev myX6_goMissing : gMY := (yX6_goMissing, cX6_goMissing, 1, none)
abbrev myX6_reaches : gMY := (yX6_reaches, cX6_reaches, 3, (some .boolean))
abbrev myX6_cut : gMY := (yX6_cut, cX6_cut, 2, (some .int))
abbrev myX7_init : gMY := (yX7_init, cX7_init, 1, none)
abbrev myX7_append : gMY := (yX7_append, cX7_append, 5, (some .boolean))
abbrev myX7_empty : gMY := (yX7_empty, cX7_empty, 1, none)
abbrev myX7_rewind : gMY := (yX7_rewind, cX7_rewind, 1, none)
abbrev myX7_next : gMY := (yX7_next, cX7_next, 1, none)
abbrev myX7_takeName : gMY := (yX7_takeName, cX7_takeName, 1, none)
abbrev myX7_takeNumber : gMY := (yX7_takeNumber, cX7_takeNumber, 1, none)
abbrev myX7_hasLetter : gMY := (yX7_hasLetter, cX7_hasLetter, 2, (some .boolean))
abbrev myX7_hasFigure : gMY := (yX7_hasFigure, cX7_hasFigure, 2, (some .boolean))
abbrev myX7_spells : gMY := (yX7_spells, cX7_spells, 3, (some .boolean))
abbrev myX8_init : gMY := (yX8_init, cX8_init, 1, none)
abbrev myX8_isLit : gMY := (yX8_isLit, cX8_isLit, 2, (some .boolean))
abbrev myX9_init : gMY := (yX9_init, cX9_init, 2, none)
abbrev myX9_sheet : gMY := (yX9_sheet, cX9_sheet, 4, (some .int))
abbrev myX9_set : gMY := (yX9_set, cX9_set, 5, (some .int))
abbrev myX9_copy : gMY := (yX9_copy, cX9_copy, 8, (some .int))
abbrev myX9_drop : gMY := (yX9_drop, cX9_drop, 4, (some .int))
abbrev myX9_feed : gMY := (yX9_feed, cX9_feed, 4, (some .int))
abbrev myX9_run : gMY := (yX9_run, cX9_run, 4, (some .int))
abbrev myX9_fault : gMY := (yX9_fault, cX9_fault, 1, (some .int))
abbrev myX9_way : gMY := (yX9_way, cX9_way, 3, (some .int))
abbrev myX9_lay : gMY := (yX9_lay, cX9_lay, 6, (some .int))
abbrev myX9_part : gMY := (yX9_part, cX9_part, 4, (some .int))
abbrev myX9_bright : gMY := (yX9_bright, cX9_bright, 7, (some .long))
abbrev myX9_moved : gMY := (yX9_moved, cX9_moved, 13, (some .int))
abbrev myX9_take : gMY := (yX9_take, cX9_take, 5, (some .int))
abbrev myX9_lose : gMY := (yX9_lose, cX9_lose, 5, (some .int))
abbrev myX9_grain : gMY := (yX9_grain, cX9_grain, 4, (some .int))
abbrev myX9_read : gMY := (yX9_read, cX9_read, 7, (some .int))
abbrev myX9_parts : gMY := (yX9_parts, cX9_parts, 6, (some .int))
abbrev myX9_off : gMY := (yX9_off, cX9_off, 4, (some .int))
abbrev myX9_lack : gMY := (yX9_lack, cX9_lack, 10, (some .long))
abbrev myX9_fits : gMY := (yX9_fits, cX9_fits, 6, (some .int))
abbrev myX9_mark : gMY := (yX9_mark, cX9_mark, 6, (some .int))
abbrev myX9_aim : gMY := (yX9_aim, cX9_aim, 13, (some .int))
abbrev myX9_kind : gMY := (yX9_kind, cX9_kind, 2, (some .int))
abbrev myX9_as : gMY := (yX9_as, cX9_as, 4, (some .int))
abbrev myX9_ask : gMY := (yX9_ask, cX9_ask, 4, (some .int))
abbrev myX9_trace : gMY := (yX9_trace, cX9_trace, 2, (some .int))
abbrev myX9_count : gMY := (yX9_count, cX9_count, 2, (some .int))
abbrev myX9_status : gMY := (yX9_status, cX9_status, 1, (some .int))
abbrev myX9_found : gMY := (yX9_found, cX9_found, 2, (some .int))
abbrev myX9_fine : gMY := (yX9_fine, cX9_fine, 2, (some .int))
abbrev myX9_below : gMY := (yX9_below, cX9_below, 2, (some .boolean))
abbrev myX9_isSheet : gMY := (yX9_isSheet, cX9_isSheet, 1, (some .boolean))
abbrev myX9_isWave : gMY := (yX9_isWave, cX9_isWave, 1, (some .boolean))
abbrev myX9_isPlate : gMY := (yX9_isPlate, cX9_isPlate, 1, (some .boolean))
abbrev myX9_sheetsThere : gMY := (yX9_sheetsThere, cX9_sheetsThere, 3, (some .int))
abbrev myX9_wavesLit : gMY := (yX9_wavesLit, cX9_wavesLit, 3, (some .int))
abbrev myX9_platesOf : gMY := (yX9_platesOf, cX9_platesOf, 4, (some .int))
abbrev myX9_square : gMY := (yX9_square, cX9_square, 1, (some .int))
abbrev myX9_brightOf : gMY := (yX9_brightOf, cX9_brightOf, 4, (some .long))
abbrev myX9_turnedRe : gMY := (yX9_turnedRe, cX9_turnedRe, 5, (some .long))
abbrev myX9_turnedIm : gMY := (yX9_turnedIm, cX9_turnedIm, 5, (some .long))
abbrev myX9_lean : gMY := (yX9_lean, cX9_lean, 3, (some .int))
abbrev myX9_placesTurned : gMY := (yX9_placesTurned, cX9_placesTurned, 5, (some .int))
abbrev myX9_sendPart : gMY := (yX9_sendPart, cX9_sendPart, 17, none)
abbrev myX9_perform : gMY := (yX9_perform, cX9_perform, 5, (some .boolean))
abbrev myX9_placeTold : gMY := (yX9_placeTold, cX9_placeTold, 2, (some .int))
abbrev myX10_init : gMY := (yX10_init, cX10_init, 1, none)
abbrev myX10_in : gMY := (yX10_in, cX10_in, 6, (some .boolean))
abbrev myX10_finding : gMY := (yX10_finding, cX10_finding, 2, (some .int))
abbrev myX10_isSheet : gMY := (yX10_isSheet, cX10_isSheet, 1, (some .boolean))
abbrev myX10_sheet : gMY := (yX10_sheet, cX10_sheet, 5, (some .int))
abbrev myX10_set : gMY := (yX10_set, cX10_set, 4, (some .int))
abbrev myX10_copy : gMY := (yX10_copy, cX10_copy, 9, (some .int))
abbrev myX10_drop : gMY := (yX10_drop, cX10_drop, 2, (some .int))
abbrev myX10_lookItems : gMY := (yX10_lookItems, cX10_lookItems, 4, (some .int))
abbrev myX10_isWave : gMY := (yX10_isWave, cX10_isWave, 1, (some .boolean))
abbrev myX10_isPlace : gMY := (yX10_isPlace, cX10_isPlace, 1, (some .boolean))
abbrev myX10_turnedRe : gMY := (yX10_turnedRe, cX10_turnedRe, 5, (some .long))
abbrev myX10_turnedIm : gMY := (yX10_turnedIm, cX10_turnedIm, 5, (some .long))
abbrev myX10_asItIs : gMY := (yX10_asItIs, cX10_asItIs, 3, none)
abbrev myX10_isMade : gMY := (yX10_isMade, cX10_isMade, 4, (some .boolean))
abbrev myX10_goWay : gMY := (yX10_goWay, cX10_goWay, 6, none)
abbrev myX10_way : gMY := (yX10_way, cX10_way, 4, (some .int))
abbrev myX10_lay : gMY := (yX10_lay, cX10_lay, 6, (some .int))
abbrev myX10_part : gMY := (yX10_part, cX10_part, 4, (some .int))
abbrev myX10_brightOf : gMY := (yX10_brightOf, cX10_brightOf, 7, (some .long))
abbrev myX10_bright : gMY := (yX10_bright, cX10_bright, 6, (some .long))
abbrev myX10_moved : gMY := (yX10_moved, cX10_moved, 13, (some .int))
abbrev myX10_feed : gMY := (yX10_feed, cX10_feed, 5, (some .int))
abbrev myX10_byteAt : gMY := (yX10_byteAt, cX10_byteAt, 2, (some .int))
abbrev myX10_isLetter : gMY := (yX10_isLetter, cX10_isLetter, 1, (some .boolean))
abbrev myX10_isFigure : gMY := (yX10_isFigure, cX10_isFigure, 1, (some .boolean))
abbrev myX10_step : gMY := (yX10_step, cX10_step, 2, none)
abbrev myX10_bad : gMY := (yX10_bad, cX10_bad, 2, none)
abbrev myX10_must : gMY := (yX10_must, cX10_must, 2, none)
abbrev myX10_word : gMY := (yX10_word, cX10_word, 4, (some .long))
abbrev myX10_numberTo : gMY := (yX10_numberTo, cX10_numberTo, 4, (some .int))
abbrev myX10_act : gMY := (yX10_act, cX10_act, 11, none)
abbrev myX10_readAct : gMY := (yX10_readAct, cX10_readAct, 8, none)
abbrev myX10_readAll : gMY := (yX10_readAll, cX10_readAll, 1, none)
abbrev myX10_run : gMY := (yX10_run, cX10_run, 1, (some .int))
abbrev myX10_fault : gMY := (yX10_fault, cX10_fault, 1, (some .int))
abbrev myX10_isPlate : gMY := (yX10_isPlate, cX10_isPlate, 1, (some .boolean))
abbrev myX10_lookAt : gMY := (yX10_lookAt, cX10_lookAt, 2, (some .int))
abbrev myX10_take : gMY := (yX10_take, cX10_take, 13, (some .int))
abbrev myX10_told : gMY := (yX10_told, cX10_told, 1, (some .int))
abbrev myX10_lose : gMY := (yX10_lose, cX10_lose, 5, (some .int))
abbrev myX10_grain : gMY := (yX10_grain, cX10_grain, 4, (some .int))
abbrev myX10_sends : gMY := (yX10_sends, cX10_sends, 3, (some .long))
abbrev myX10_read : gMY := (yX10_read, cX10_read, 5, (some .int))
abbrev myX10_parts : gMY := (yX10_parts, cX10_parts, 18, (some .int))
abbrev myX10_lostOn : gMY := (yX10_lostOn, cX10_lostOn, 4, (some .int))
abbrev myX10_off : gMY := (yX10_off, cX10_off, 4, (some .int))
abbrev myX10_length : gMY := (yX10_length, cX10_length, 2, (some .long))
abbrev myX10_lack : gMY := (yX10_lack, cX10_lack, 7, (some .long))
abbrev myX10_isFit : gMY := (yX10_isFit, cX10_isFit, 13, (some .boolean))
abbrev myX10_fits : gMY := (yX10_fits, cX10_fits, 12, (some .int))
abbrev myX10_sumOf : gMY := (yX10_sumOf, cX10_sumOf, 6, (some .int))
abbrev myX10_mark : gMY := (yX10_mark, cX10_mark, 8, (some .int))
abbrev myX10_aim : gMY := (yX10_aim, cX10_aim, 13, (some .int))
abbrev myX10_kindOf : gMY := (yX10_kindOf, cX10_kindOf, 5, (some .int))
abbrev myX10_isOf : gMY := (yX10_isOf, cX10_isOf, 2, (some .boolean))
abbrev myX10_kind : gMY := (yX10_kind, cX10_kind, 3, (some .int))
abbrev myX10_as : gMY := (yX10_as, cX10_as, 4, (some .int))
abbrev myX10_began : gMY := (yX10_began, cX10_began, 2, none)
abbrev myX10_clearSize : gMY := (yX10_clearSize, cX10_clearSize, 5, (some .int))
abbrev myX10_markOf : gMY := (yX10_markOf, cX10_markOf, 5, (some .int))
abbrev myX10_tornSize : gMY := (yX10_tornSize, cX10_tornSize, 5, (some .int))
abbrev myX10_ask : gMY := (yX10_ask, cX10_ask, 5, (some .int))
abbrev myX10_trace : gMY := (yX10_trace, cX10_trace, 2, (some .int))
abbrev myX10_count : gMY := (yX10_count, cX10_count, 6, (some .int))
abbrev myX10_status : gMY := (yX10_status, cX10_status, 1, (some .int))
abbrev myJ6_bitCount_0f7a4 : gMY := (yJ6_bitCount_0f7a4, cJ6_bitCount_0f7a4, 1, (some .int))
abbrev myJ9_abs_0f7a4 : gMY := (yJ9_abs_0f7a4, cJ9_abs_0f7a4, 1, (some .int))
abbrev myJ9_abs_067f4 : gMY := (yJ9_abs_067f4, cJ9_abs_067f4, 2, (some .long))
abbrev myJ9_max_7cf53 : gMY := (yJ9_max_7cf53, cJ9_max_7cf53, 2, (some .int))
abbrev myJ9_min_f86c9 : gMY := (yJ9_min_f86c9, cJ9_min_f86c9, 4, (some .long))
abbrev myJ0_length_8abf5 : gMY := (yJ0_length_8abf5, cJ0_length_8abf5, 1, (some .int))
abbrev myJ0_charAt_5068e : gMY := (yJ0_charAt_5068e, cJ0_charAt_5068e, 2, (some .char))
abbrev myJ0_coder_7d493 : gMY := (yJ0_coder_7d493, cJ0_coder_7d493, 1, (some .byte))
abbrev myJ0_isLatin1_aae02 : gMY := (yJ0_isLatin1_aae02, cJ0_isLatin1_aae02, 1, (some .boolean))
abbrev myJ0_checkIndex_df160 : gMY := (yJ0_checkIndex_df160, cJ0_checkIndex_df160, 2, none)
abbrev myJ1_charAt_3b067 : gMY := (yJ1_charAt_3b067, cJ1_charAt_3b067, 2, (some .char))
abbrev myJ2_getChar_3b067 : gMY := (yJ2_getChar_3b067, cJ2_getChar_3b067, 2, (some .char))
abbrev myJ2_length_9d52b : gMY := (yJ2_length_9d52b, cJ2_length_9d52b, 1, (some .int))
abbrev myJ2_charAt_3b067 : gMY := (yJ2_charAt_3b067, cJ2_charAt_3b067, 2, (some .char))
abbrev myJ2_checkIndex_2214a : gMY := (yJ2_checkIndex_2214a, cJ2_checkIndex_2214a, 2, none)
abbrev myJ7_fill_d0a16 : gMY := (yJ7_fill_d0a16, cJ7_fill_d0a16, 5, none)
abbrev myJ7_fill_53178 : gMY := (yJ7_fill_53178, cJ7_fill_53178, 4, none)
abbrev myJ3_checkIndex_8e157 : gMY := (yJ3_checkIndex_8e157, cJ3_checkIndex_8e157, 3, (some .int))
/-- fields by class and index: class, slot, place of the word -/
def gFL0 : List (Nat × Nat × Nat × Nat) := [(11, 0, 0, 174), (15, 0, 1, 176), (61, 3, 1, 227)]
def gFL1 : List (Nat × Nat × Nat × Nat) := [(9, 1, 0, 73), (15, 1, 1, 74), (24, 8, 0, 207), (29, 8, 1, 211)]
def gFL2 : List (Nat × Nat × Nat × Nat) := [(9, 2, 0, 158), (13, 2, 1, 159), (16, 2, 2, 160)]
def gFL3 : List (Nat × Nat × Nat × Nat) := [(25, 8, 0, 208), (30, 8, 1, 212), (9, 3, 0, 224), (15, 3, 1, 226)]
def gFL4 : List (Nat × Nat × Nat × Nat) := [(11, 4, 0, 145), (15, 4, 1, 146)]
def gFL5 : List (Nat × Nat × Nat × Nat) := [(58, 7, 2, 91), (36, 7, 4, 94), (55, 7, 5, 96), (13, 5, 0, 117), (17, 5, 1, 119), (20, 5, 2, 121), (24, 5, 3, 123), (27, 5, 4, 125)]
def gFL6 : List (Nat × Nat × Nat × Nat) := [(9, 6, 0, 188), (15, 6, 1, 190), (19, 6, 2, 192)]
def gFL7 : List (Nat × Nat × Nat × Nat) := [(9, 7, 0, 87), (13, 7, 1, 88), (17, 7, 2, 90), (20, 7, 3, 92), (23, 7, 4, 93), (26, 7, 5, 95)]
def gFL8 : List (Nat × Nat × Nat × Nat) := [(9, 8, 0, 206), (15, 8, 1, 210)]
def gFL9 : List (Nat × Nat × Nat × Nat) := [(132, 7, 1, 89), (153, 5, 0, 118), (306, 5, 1, 120), (150, 5, 2, 122), (143, 5, 3, 124), (147, 5, 4, 126), (285, 0, 0, 175), (282, 0, 1, 177), (106, 6, 0, 189), (113, 6, 1, 191), (122, 6, 2, 193), (178, 8, 0, 209), (181, 8, 1, 213), (211, 3, 0, 225), (214, 3, 1, 228), (11, 9, 0, 234), (17, 9, 1, 235), (23, 9, 2, 236), (30, 9, 3, 237), (37, 9, 4, 238), (44, 9, 5, 239), (51, 9, 6, 240), (58, 9, 7, 241), (65, 9, 8, 242), (69, 9, 9, 243), (73, 9, 10, 244)]
def gFL10 : List (Nat × Nat × Nat × Nat) := [(44, 10, 0, 838), (48, 10, 1, 839), (7, 10, 2, 840), (13, 10, 3, 841), (16, 10, 4, 842), (19, 10, 5, 843), (22, 10, 6, 844), (25, 10, 7, 845), (29, 10, 8, 846), (32, 10, 9, 847), (112, 10, 10, 848), (199, 10, 11, 849), (117, 10, 12, 850), (120, 10, 13, 851), (129, 10, 14, 852), (126, 10, 15, 853), (138, 10, 16, 854), (141, 10, 17, 855), (144, 10, 18, 856), (185, 10, 19, 857), (173, 10, 20, 858), (35, 10, 21, 859), (38, 10, 22, 860), (41, 10, 23, 861), (248, 10, 24, 862)]
def gFL11 : List (Nat × Nat × Nat × Nat) := []
def gFL12 : List (Nat × Nat × Nat × Nat) := []
def gFL13 : List (Nat × Nat × Nat × Nat) := []
def gFL14 : List (Nat × Nat × Nat × Nat) := []
def gFL15 : List (Nat × Nat × Nat × Nat) := []
def gFL16 : List (Nat × Nat × Nat × Nat) := []
def gFL17 : List (Nat × Nat × Nat × Nat) := []
def gFL18 : List (Nat × Nat × Nat × Nat) := []
def gFL19 : List (Nat × Nat × Nat × Nat) := []
def gFL : Nat → List (Nat × Nat × Nat × Nat) := fun o => match o with
  | 0 => gFL0
  | 1 => gFL1
  | 2 => gFL2
  | 3 => gFL3
  | 4 => gFL4
  | 5 => gFL5
  | 6 => gFL6
  | 7 => gFL7
  | 8 => gFL8
  | 9 => gFL9
  | 10 => gFL10
  | 11 => gFL11
  | 12 => gFL12
  | 13 => gFL13
  | 14 => gFL14
  | 15 => gFL15
  | 16 => gFL16
  | 17 => gFL17
  | 18 => gFL18
  | 19 => gFL19
  | _ => []
def gCL0 : List (Nat × gAV × Nat) := []
def gCL1 : List (Nat × gAV × Nat) := [(61, .inr (.inl 1000000), 520), (53, .inr (.inl 16), 536)]
def gCL2 : List (Nat × gAV × Nat) := []
def gCL3 : List (Nat × gAV × Nat) := [(37, .inr (.inl 255), 577), (51, .inl 65535, 689)]
def gCL4 : List (Nat × gAV × Nat) := [(31, .inl (-1000000), 671)]
def gCL5 : List (Nat × gAV × Nat) := []
def gCL6 : List (Nat × gAV × Nat) := []
def gCL7 : List (Nat × gAV × Nat) := []
def gCL8 : List (Nat × gAV × Nat) := []
def gCL9 : List (Nat × gAV × Nat) := [(87, .inl (-1000001), 278), (297, .inl (-1000010), 283), (135, .inl (-1000003), 334), (146, .inl (-1000100), 457), (169, .inl (-1000002), 537), (184, .inr (.inl (-1000001)), 550), (186, .inl (-1000000), 551), (201, .inl 100000, 568), (304, .inr (.inl 2), 621), (244, .inl 65536, 680)]
def gCL10 : List (Nat × gAV × Nat) := [(52, .inr (.inl 7), 921), (62, .inr (.inl 2), 925), (64, .inl (-1000001), 926), (51, .inl (-1000010), 931), (89, .inr (.inl 16), 961), (91, .inl (-1000002), 962), (71, .inr (.inl (-1000000)), 967), (73, .inr (.inl 1000000), 968), (95, .inl (-1000003), 969), (69, .inr (.inl 15), 985), (103, .inl (-1000000), 990), (104, .inr (.inl (-1000001)), 991), (110, .inr (.inl 8), 1004), (115, .inr (.inl 255), 1005), (161, .inr (.inl 482905517684), 1036), (163, .inr (.inl 482854661733), 1037), (165, .inr (.inl 6580589), 1038), (167, .inr (.inl 1953854062), 1039), (169, .inr (.inl 6382692), 1040), (171, .inr (.inl 7823737), 1041), (180, .inr (.inl 2003398757), 1042), (202, .inl (-1000100), 1063), (203, .inr (.inl 5), 1075), (208, .inr (.inl 100000), 1076), (219, .inr (.inl 3), 1104), (232, .inr (.inl 65535), 1132), (238, .inl 65536, 1137), (242, .inr (.inl 4), 1154)]
def gCL11 : List (Nat × gAV × Nat) := [(32, .inr (.inl 4294967295), 1190)]
def gCL12 : List (Nat × gAV × Nat) := [(265, .inl 1431655765, 652), (266, .inl 858993459, 653), (267, .inl 252645135, 654)]
def gCL13 : List (Nat × gAV × Nat) := []
def gCL14 : List (Nat × gAV × Nat) := []
def gCL15 : List (Nat × gAV × Nat) := []
def gCL16 : List (Nat × gAV × Nat) := []
def gCL17 : List (Nat × gAV × Nat) := []
def gCL18 : List (Nat × gAV × Nat) := []
def gCL19 : List (Nat × gAV × Nat) := []
def gCL : Nat → List (Nat × gAV × Nat) := fun o => match o with
  | 0 => gCL0
  | 1 => gCL1
  | 2 => gCL2
  | 3 => gCL3
  | 4 => gCL4
  | 5 => gCL5
  | 6 => gCL6
  | 7 => gCL7
  | 8 => gCL8
  | 9 => gCL9
  | 10 => gCL10
  | 11 => gCL11
  | 12 => gCL12
  | 13 => gCL13
  | 14 => gCL14
  | 15 => gCL15
  | 16 => gCL16
  | 17 => gCL17
  | 18 => gCL18
  | 19 => gCL19
  | _ => []
/-- calls: index, kind (0 static, 1 virtual, 2 static of a nest mate), how many words come off the stack, the method, places of: link, static / instance, selects, code, initialized -/
def gIL0 : List (Nat × Nat × Nat × gMY × List Nat) := [(19, 103, 1, myX3_kindTold, [751, 722, 723, 724, 43]), (25, 100, 2, myX0_sizeOfClear, [752, 753, 754, 755, 40]), (54, 100, 2, myX0_begin, [756, 757, 758, 759, 40]), (39, 100, 2, myX0_sizeLent, [760, 761, 762, 763, 40]), (58, 103, 1, myX3_total, [764, 686, 687, 688, 43]), (29, 100, 2, myX0_sizeOfFully, [765, 766, 767, 768, 40]), (32, 100, 3, myX0_sizeOfTorn, [769, 770, 771, 772, 40]), (64, 100, 3, myX0_markAsked, [773, 774, 775, 776, 40]), (42, 100, 2, myX0_markOfClear, [777, 778, 779, 780, 40]), (51, 100, 2, myX0_markLent, [781, 782, 783, 784, 40]), (67, 103, 1, myX3_greatest, [785, 786, 787, 788, 43]), (45, 100, 3, myX0_markOfFully, [789, 790, 791, 792, 40]), (70, 100, 3, myX0_sizeAsked, [793, 748, 749, 750, 40]), (48, 100, 2, myX0_markOfTorn, [794, 795, 796, 797, 40]), (73, 103, 1, myX3_lostOnes, [798, 627, 628, 629, 43]), (36, 100, 3, myX0_sizeOfBlind, [799, 800, 801, 802, 40])]
def gIL1 : List (Nat × Nat × Nat × gMY × List Nat) := [(31, 101, 4, myX1_put, [466, 467, 468, 469, 35]), (35, 2, 3, myX9_turnedRe, [478, 479, 0, 480, 34]), (39, 2, 3, myX9_turnedIm, [481, 482, 0, 483, 34]), (42, 2, 3, myX9_lean, [488, 489, 0, 490, 34]), (46, 101, 5, myX1_addTurned, [491, 475, 476, 477, 35]), (50, 101, 1, myX1_darken, [505, 506, 507, 508, 35]), (18, 0, 2, myJ7_fill_d0a16, [509, 510, 0, 511, 45]), (55, 0, 1, myJ9_abs_067f4, [517, 518, 0, 519, 51])]
def gIL2 : List (Nat × Nat × Nat × gMY × List Nat) := [(19, 102, 4, myX2_sumUp, [695, 696, 697, 698, 39]), (23, 103, 2, myX3_shown, [699, 610, 611, 612, 43]), (29, 102, 4, myX2_merge, [700, 701, 702, 703, 39])]
def gIL3 : List (Nat × Nat × Nat × gMY × List Nat) := [(19, 0, 2, myJ9_max_7cf53, [573, 574, 0, 575, 51]), (33, 2, 2, myX9_brightOf, [576, 553, 0, 554, 34]), (39, 0, 2, myJ9_min_f86c9, [578, 579, 0, 580, 51]), (42, 103, 2, myX3_howMany, [585, 586, 587, 588, 43]), (46, 103, 2, myX3_shown, [609, 610, 611, 612, 43]), (52, 103, 2, myX3_totalWithin, [690, 682, 683, 684, 43]), (55, 103, 1, myX3_lostOnes, [725, 627, 628, 629, 43]), (59, 103, 1, myX3_whiteOnes, [726, 582, 583, 584, 43]), (62, 103, 1, myX3_kindTold, [735, 722, 723, 724, 43]), (65, 0, 1, myX3_kindAbove, [736, 737, 0, 738, 43])]
def gIL4 : List (Nat × Nat × Nat × gMY × List Nat) := [(19, 0, 1, myX4_choices, [646, 647, 0, 648, 38]), (32, 0, 1, myJ6_bitCount_0f7a4, [649, 650, 0, 651, 52]), (23, 104, 3, myX4_spread, [655, 656, 657, 658, 38]), (27, 104, 3, myX4_sends, [659, 660, 661, 662, 38]), (37, 104, 2, myX4_farBright, [663, 664, 665, 666, 38])]
def gIL5 : List (Nat × Nat × Nat × gMY × List Nat) := [(30, 107, 1, myX7_rewind, [343, 344, 345, 346, 36]), (33, 107, 1, myX7_next, [347, 348, 349, 350, 36]), (39, 105, 2, myX5_readAct, [367, 368, 369, 370, 37]), (43, 0, 1, myX5_verbOf, [371, 372, 0, 373, 37]), (61, 0, 1, myX5_wordOf, [374, 375, 0, 376, 37]), (65, 107, 2, myX7_spells, [384, 385, 386, 387, 36]), (47, 105, 3, myX5_faulty, [436, 437, 438, 439, 37]), (51, 0, 1, myX5_mostOf, [440, 441, 0, 442, 37])]
def gIL6 : List (Nat × Nat × Nat × gMY × List Nat) := [(22, 0, 2, myJ7_fill_53178, [288, 289, 0, 290, 45])]
def gIL7 : List (Nat × Nat × Nat × gMY × List Nat) := [(29, 107, 2, myX7_hasLetter, [351, 352, 353, 354, 36]), (33, 107, 1, myX7_takeName, [355, 356, 357, 358, 36]), (36, 107, 2, myX7_hasFigure, [359, 360, 361, 362, 36]), (39, 107, 1, myX7_takeNumber, [363, 364, 365, 366, 36]), (42, 114, 1, myJ0_length_8abf5, [388, 389, 390, 391, 47]), (47, 114, 2, myJ0_charAt_5068e, [398, 399, 400, 401, 47])]
def gIL8 : List (Nat × Nat × Nat × gMY × List Nat) := []
def gIL9 : List (Nat × Nat × Nat × gMY × List Nat) := [(79, 0, 1, myX9_isSheet, [272, 273, 0, 274, 34]), (83, 0, 2, myX9_below, [275, 276, 0, 277, 34]), (88, 109, 2, myX9_found, [279, 281, 0, 282, 34]), (92, 106, 3, myX6_become, [284, 285, 286, 287, 41]), (96, 109, 2, myX9_fine, [291, 293, 1, 294, 34]), (99, 106, 1, myX6_isMissing, [299, 300, 301, 302, 41]), (103, 106, 3, myX6_reaches, [303, 304, 305, 306, 41]), (110, 106, 2, myX6_cut, [307, 308, 309, 310, 41]), (125, 106, 1, myX6_goMissing, [322, 323, 324, 325, 41]), (128, 107, 3, myX7_append, [330, 331, 332, 333, 36]), (136, 105, 2, myX5_readAll, [339, 340, 341, 342, 37]), (140, 107, 1, myX7_empty, [453, 454, 455, 456, 36]), (156, 109, 3, myX9_perform, [458, 460, 2, 461, 34]), (309, 101, 2, myX1_start, [462, 463, 464, 465, 35]), (313, 109, 2, myX9_placeTold, [470, 472, 3, 473, 34]), (316, 101, 5, myX1_addTurned, [474, 475, 476, 477, 35]), (320, 101, 5, myX1_addPlane, [484, 485, 486, 487, 35]), (174, 101, 4, myX1_put, [492, 467, 468, 469, 35]), (324, 101, 3, myX1_turn, [493, 494, 495, 496, 35]), (327, 101, 2, myX1_addWave, [497, 498, 499, 500, 35]), (162, 101, 3, myX1_sendOn, [501, 502, 503, 504, 35]), (330, 101, 1, myX1_darken, [512, 506, 507, 508, 35]), (170, 101, 2, myX1_settle, [513, 514, 515, 516, 35]), (159, 0, 1, myX9_isWave, [529, 530, 0, 531, 34]), (166, 101, 1, myX1_shareBySixteen, [532, 533, 534, 535, 35]), (187, 0, 2, myX9_brightOf, [552, 553, 0, 554, 34]), (191, 0, 3, myX9_turnedRe, [559, 479, 0, 480, 34]), (195, 0, 3, myX9_turnedIm, [560, 482, 0, 483, 34]), (198, 0, 1, myX9_isPlate, [565, 566, 0, 567, 34]), (202, 103, 4, myX3_keepFringes, [569, 570, 571, 572, 43]), (206, 103, 1, myX3_whiteOnes, [581, 582, 583, 584, 43]), (210, 103, 1, myX3_isMissing, [593, 594, 595, 596, 43]), (217, 103, 2, myX3_weight, [605, 606, 607, 608, 43]), (221, 109, 5, myX9_sendPart, [617, 619, 4, 620, 34]), (225, 103, 1, myX3_lostOnes, [626, 627, 628, 629, 43]), (228, 0, 1, myJ9_abs_067f4, [634, 518, 0, 519, 51]), (234, 0, 1, myJ9_abs_0f7a4, [635, 636, 0, 637, 51]), (236, 104, 5, myX4_pick, [642, 643, 644, 645, 38]), (240, 104, 5, myX4_howMany, [672, 673, 674, 675, 38]), (245, 103, 2, myX3_totalWithin, [681, 682, 683, 684, 43]), (248, 103, 1, myX3_total, [685, 686, 687, 688, 43]), (251, 102, 3, myX2_howManyReach, [691, 692, 693, 694, 39]), (255, 0, 3, myX9_placesTurned, [709, 710, 0, 711, 34]), (301, 0, 3, myX9_lean, [712, 489, 0, 490, 34]), (259, 0, 1, myJ6_bitCount_0f7a4, [713, 650, 0, 651, 52]), (264, 0, 1, myX9_square, [714, 715, 0, 716, 34]), (267, 103, 1, myX3_kindTold, [721, 722, 723, 724, 43]), (270, 103, 2, myX3_isOf, [731, 732, 733, 734, 43]), (273, 100, 1, myX0_forget, [743, 744, 745, 746, 40]), (276, 100, 3, myX0_sizeAsked, [747, 748, 749, 750, 40]), (279, 100, 3, myX0_markAsked, [803, 774, 775, 776, 40]), (288, 109, 1, myX9_sheetsThere, [812, 814, 5, 815, 34]), (291, 109, 1, myX9_wavesLit, [816, 818, 6, 819, 34]), (298, 108, 1, myX8_isLit, [820, 821, 822, 823, 42]), (294, 109, 2, myX9_platesOf, [824, 826, 7, 827, 34])]
def gIL10 : List (Nat × Nat × Nat × gMY × List Nat) := [(58, 0, 1, myX10_isSheet, [918, 919, 0, 920, 44]), (54, 0, 3, myX10_in, [922, 923, 0, 924, 44]), (65, 110, 2, myX10_finding, [927, 929, 8, 930, 44]), (82, 0, 1, myX10_isWave, [948, 949, 0, 950, 44]), (85, 110, 3, myX10_goWay, [951, 953, 9, 954, 44]), (75, 0, 3, myX10_turnedRe, [955, 956, 0, 957, 44]), (79, 0, 3, myX10_turnedIm, [958, 959, 0, 960, 44]), (92, 110, 2, myX10_isMade, [963, 965, 10, 966, 44]), (96, 110, 4, myX10_lookItems, [974, 976, 11, 977, 44]), (100, 0, 1, myX10_isPlace, [982, 983, 0, 984, 44]), (106, 110, 3, myX10_brightOf, [992, 994, 12, 995, 44]), (196, 110, 1, myX10_readAll, [1010, 1012, 13, 1013, 44]), (151, 110, 1, myX10_step, [1014, 1016, 14, 1017, 44]), (123, 110, 2, myX10_byteAt, [1018, 1020, 15, 1021, 44]), (132, 0, 1, myX10_isLetter, [1022, 1023, 0, 1024, 44]), (135, 0, 1, myX10_isFigure, [1025, 1026, 0, 1027, 44]), (193, 110, 1, myX10_readAct, [1028, 1030, 16, 1031, 44]), (176, 110, 1, myX10_word, [1032, 1034, 17, 1035, 44]), (154, 110, 2, myX10_must, [1043, 1045, 18, 1046, 44]), (147, 110, 2, myX10_bad, [1047, 1049, 19, 1050, 44]), (182, 110, 2, myX10_numberTo, [1051, 1053, 20, 1054, 44]), (189, 110, 7, myX10_act, [1055, 1057, 21, 1058, 44]), (158, 110, 2, myX10_asItIs, [1059, 1061, 22, 1062, 44]), (205, 0, 1, myX10_isPlate, [1072, 1073, 0, 1074, 44]), (210, 110, 2, myX10_lookAt, [1081, 1083, 23, 1084, 44]), (213, 0, 1, myX10_told, [1085, 1086, 0, 1087, 44]), (216, 110, 3, myX10_sends, [1096, 1098, 24, 1099, 44]), (221, 110, 2, myX10_lostOn, [1109, 1111, 25, 1112, 44]), (224, 0, 1, myX10_length, [1117, 1118, 0, 1119, 44]), (228, 110, 4, myX10_isFit, [1124, 1126, 26, 1127, 44]), (234, 110, 3, myX10_sumOf, [1133, 1135, 27, 1136, 44]), (239, 110, 2, myX10_kindOf, [1146, 1148, 28, 1149, 44]), (244, 0, 2, myX10_isOf, [1155, 1156, 0, 1157, 44]), (257, 110, 3, myX10_markOf, [1162, 1164, 29, 1165, 44]), (251, 110, 2, myX10_began, [1166, 1168, 30, 1169, 44]), (254, 110, 3, myX10_clearSize, [1170, 1172, 31, 1173, 44]), (260, 110, 3, myX10_tornSize, [1174, 1176, 32, 1177, 44])]
def gIL11 : List (Nat × Nat × Nat × gMY × List Nat) := [(13, 109, 4, myX9_sheet, [268, 269, 270, 271, 34]), (18, 109, 4, myX9_set, [295, 296, 297, 298, 34]), (22, 109, 6, myX9_copy, [311, 312, 313, 314, 34]), (27, 109, 2, myX9_drop, [318, 319, 320, 321, 34]), (34, 109, 3, myX9_feed, [326, 327, 328, 329, 34]), (39, 109, 1, myX9_run, [335, 336, 337, 338, 34]), (44, 109, 1, myX9_fault, [521, 522, 523, 524, 34]), (48, 109, 3, myX9_way, [525, 526, 527, 528, 34]), (53, 109, 4, myX9_lay, [538, 539, 540, 541, 34]), (57, 109, 4, myX9_part, [542, 543, 544, 545, 34]), (61, 109, 3, myX9_bright, [546, 547, 548, 549, 34]), (66, 109, 4, myX9_moved, [555, 556, 557, 558, 34]), (70, 109, 5, myX9_take, [561, 562, 563, 564, 34]), (75, 109, 3, myX9_lose, [589, 590, 591, 592, 34]), (79, 109, 3, myX9_grain, [597, 598, 599, 600, 34]), (83, 109, 4, myX9_read, [601, 602, 603, 604, 34]), (87, 109, 5, myX9_parts, [613, 614, 615, 616, 34]), (91, 109, 3, myX9_off, [622, 623, 624, 625, 34]), (95, 109, 4, myX9_lack, [630, 631, 632, 633, 34]), (100, 109, 5, myX9_fits, [638, 639, 640, 641, 34]), (104, 109, 4, myX9_mark, [676, 677, 678, 679, 34]), (108, 109, 6, myX9_aim, [705, 706, 707, 708, 34]), (112, 109, 2, myX9_kind, [717, 718, 719, 720, 34]), (116, 109, 3, myX9_as, [727, 728, 729, 730, 34]), (120, 109, 3, myX9_ask, [739, 740, 741, 742, 34]), (124, 109, 2, myX9_trace, [804, 805, 806, 807, 34]), (128, 109, 2, myX9_count, [808, 809, 810, 811, 34]), (132, 109, 1, myX9_status, [828, 829, 830, 831, 34]), (17, 110, 4, myX10_sheet, [914, 915, 916, 917, 44]), (21, 110, 4, myX10_set, [932, 933, 934, 935, 44]), (26, 110, 6, myX10_copy, [936, 937, 938, 939, 44]), (31, 110, 2, myX10_drop, [940, 941, 942, 943, 44]), (52, 110, 3, myX10_way, [944, 945, 946, 947, 44]), (56, 110, 4, myX10_lay, [970, 971, 972, 973, 44]), (60, 110, 4, myX10_part, [978, 979, 980, 981, 44]), (65, 110, 3, myX10_bright, [986, 987, 988, 989, 44]), (69, 110, 4, myX10_moved, [996, 997, 998, 999, 44]), (38, 110, 3, myX10_feed, [1000, 1001, 1002, 1003, 44]), (43, 110, 1, myX10_run, [1006, 1007, 1008, 1009, 44]), (47, 110, 1, myX10_fault, [1064, 1065, 1066, 1067, 44]), (74, 110, 5, myX10_take, [1068, 1069, 1070, 1071, 44]), (78, 110, 3, myX10_lose, [1077, 1078, 1079, 1080, 44]), (82, 110, 3, myX10_grain, [1088, 1089, 1090, 1091, 44]), (86, 110, 4, myX10_read, [1092, 1093, 1094, 1095, 44]), (90, 110, 5, myX10_parts, [1100, 1101, 1102, 1103, 44]), (94, 110, 3, myX10_off, [1105, 1106, 1107, 1108, 44]), (99, 110, 4, myX10_lack, [1113, 1114, 1115, 1116, 44]), (103, 110, 5, myX10_fits, [1120, 1121, 1122, 1123, 44]), (107, 110, 4, myX10_mark, [1128, 1129, 1130, 1131, 44]), (111, 110, 6, myX10_aim, [1138, 1139, 1140, 1141, 44]), (115, 110, 2, myX10_kind, [1142, 1143, 1144, 1145, 44]), (119, 110, 3, myX10_as, [1150, 1151, 1152, 1153, 44]), (123, 110, 3, myX10_ask, [1158, 1159, 1160, 1161, 44]), (127, 110, 2, myX10_trace, [1178, 1179, 1180, 1181, 44]), (131, 110, 2, myX10_count, [1182, 1183, 1184, 1185, 44]), (135, 110, 1, myX10_status, [1186, 1187, 1188, 1189, 44])]
def gIL12 : List (Nat × Nat × Nat × gMY × List Nat) := []
def gIL13 : List (Nat × Nat × Nat × gMY × List Nat) := []
def gIL14 : List (Nat × Nat × Nat × gMY × List Nat) := [(335, 114, 1, myJ0_coder_7d493, [392, 393, 394, 395, 47]), (492, 114, 1, myJ0_isLatin1_aae02, [402, 403, 404, 405, 47]), (495, 0, 2, myJ1_charAt_3b067, [406, 407, 0, 408, 48]), (1059, 0, 3, myJ3_checkIndex_8e157, [414, 415, 0, 416, 49]), (498, 0, 2, myJ2_charAt_3b067, [417, 418, 0, 419, 50])]
def gIL15 : List (Nat × Nat × Nat × gMY × List Nat) := [(9, 0, 2, myJ0_checkIndex_df160, [409, 410, 0, 411, 47])]
def gIL16 : List (Nat × Nat × Nat × gMY × List Nat) := [(67, 0, 2, myJ2_checkIndex_2214a, [420, 421, 0, 422, 50]), (48, 0, 1, myJ2_length_9d52b, [423, 424, 0, 425, 50]), (414, 0, 2, myJ0_checkIndex_df160, [426, 410, 0, 411, 47]), (71, 0, 2, myJ2_getChar_3b067, [427, 428, 0, 429, 50])]
def gIL17 : List (Nat × Nat × Nat × gMY × List Nat) := []
def gIL18 : List (Nat × Nat × Nat × gMY × List Nat) := []
def gIL19 : List (Nat × Nat × Nat × gMY × List Nat) := []
def gIL : Nat → List (Nat × Nat × Nat × gMY × List Nat) := fun o => match o with
  | 0 => gIL0
  | 1 => gIL1
  | 2 => gIL2
  | 3 => gIL3
  | 4 => gIL4
  | 5 => gIL5
  | 6 => gIL6
  | 7 => gIL7
  | 8 => gIL8
  | 9 => gIL9
  | 10 => gIL10
  | 11 => gIL11
  | 12 => gIL12
  | 13 => gIL13
  | 14 => gIL14
  | 15 => gIL15
  | 16 => gIL16
  | 17 => gIL17
  | 18 => gIL18
  | 19 => gIL19
  | _ => []
/-- static tables: class, index, family, place of the link -/
def gSL : List (Nat × Nat × Nat × Nat) := [(5, 83, 40, 443), (5, 86, 41, 445), (5, 89, 42, 447), (5, 92, 43, 449), (5, 95, 44, 451), (4, 40, 45, 667), (4, 43, 46, 669)]
/-- the places of System.arraycopy: class, index, place of the link -/
def gACL : List (Nat × Nat × Nat) := [(9, 116, 315), (2, 33, 704)]
/-- text constants: class, index, number -/
def gSRL : List (Nat × Nat × Nat) := [(5, 69, 0), (5, 71, 1), (5, 73, 2), (5, 75, 3), (5, 77, 4), (5, 79, 5), (5, 81, 6)]
def gTx : Nat → String := fun k => match k with
  | 0 => "point"
  | 1 => "plane"
  | 2 => "dim"
  | 3 => "turn"
  | 4 => "add"
  | 5 => "way"
  | 6 => "wipe"
  | _ => ""
def gSN : Nat → String := fun f => match f with
  | 40 => "SOURCE_MOST"
  | 41 => "DIM_MOST"
  | 42 => "TURN_MOST"
  | 43 => "ADD_MOST"
  | 44 => "WAVE_MOST"
  | 45 => "UNIT_RE"
  | 46 => "UNIT_IM"
  | _ => ""
-- places: {'acs': (0, 316), 'native': (0, 317), 'COMPACT_STRINGS': (38, 396), 'SIOOBE_FORMATTER': (1053, 412), 'value': (9, 1191), 'coder': (15, 1192)}
abbrev gX_value : Nat := 9
abbrev gP_value : Nat := 1191
abbrev gX_coder : Nat := 15
abbrev gP_coder : Nat := 1192
abbrev gX_COMPACT_STRINGS : Nat := 38
abbrev gP_COMPACT_STRINGS : Nat := 396
abbrev gX_SIOOBE_FORMATTER : Nat := 1053
abbrev gP_SIOOBE_FORMATTER : Nat := 412
abbrev gP_native : Nat := 317
abbrev gP_acs : Nat := 316
abbrev gP_sys : Nat := 46
end
section
/-! THE TABLES ARE TRUE: every word that they name stands in lw_tbl at its place -/
def gin (p : Nat) (w : Cond) : Bool := (match lw_tbl[p]? with
  | some u => decide (u = w)
  | none => false) && goodWord w
theorem gin_ok {p : Nat} {w : Cond} (h : gin p w = true) : w ∈ gWs := by
  unfold gin at h
  rw [Bool.and_eq_true] at h
  obtain ⟨h1, h2⟩ := h
  split at h1
  · rename_i u hu
    have hz := of_decide_eq_true h1
    subst hz
    exact List.mem_filter.mpr ⟨List.mem_of_getElem? hu, h2⟩
  · cases h1
def gchkF (o : Nat) (e : Nat × Nat × Nat × Nat) : Bool := match gCl[e.2.1]? with
  | some q => decide (e.2.2.1 < q.2.2) && decide (e.2.1 < 11) && gin e.2.2.2 (.fieldLink (gcn o) e.1 (q.2.1 e.2.2.1).1 (q.2.1 e.2.2.1).2.1 (q.2.1 e.2.2.1).2.2.1)
  | none => false
def gchkC (o : Nat) (e : Nat × gAV × Nat) : Bool := match e.2.1 with
  | .inl x => gin e.2.2 (.constant (gcn o) e.1 x)
  | .inr (.inl y) => gin e.2.2 (.constantLong (gcn o) e.1 y)
  | _ => false
def gchkY (my : gMY) (n : Nat) : Bool := plainFor my.1 && decide (my.1.cls ≠ "java/lang/invoke/MethodHandle") && decide (my.1.cls ≠ "java/lang/invoke/VarHandle") && decide ((parseMethodDescriptor my.1.desc).map (fun d => d.parameters.length) = some n) && decide (my.2.2.1 ≤ 40)
def gchkI (o : Nat) (e : Nat × Nat × Nat × gMY × List Nat) : Bool :=
  gin (e.2.2.2.2.getD 3 0) (.code e.2.2.2.1.1 e.2.2.2.1.2.1 e.2.2.2.1.2.2.1 e.2.2.2.1.2.2.2) && gin (e.2.2.2.2.getD 4 0) (.initialized e.2.2.2.1.1.cls) &&
  (match e.2.1 with
  | 0 => gchkY e.2.2.2.1 e.2.2.1 && gin (e.2.2.2.2.getD 0 0) (.methodLink (gcn o) e.1 e.2.2.2.1.1) && gin (e.2.2.2.2.getD 1 0) (.static e.2.2.2.1.1)
  | 2 => gchkY e.2.2.2.1 e.2.2.1 && gin (e.2.2.2.2.getD 1 0) (.static e.2.2.2.1.1)
  | kd => decide (100 ≤ kd) && (decide (kd - 100 < 11) || decide (kd = 114)) && decide (1 ≤ e.2.2.1) && gchkY e.2.2.2.1 (e.2.2.1 - 1) && decide (gcn (kd - 100) = e.2.2.2.1.1.cls) && gin (e.2.2.2.2.getD 0 0) (.methodLink (gcn o) e.1 e.2.2.2.1.1) && gin (e.2.2.2.2.getD 1 0) (.instanceMethod e.2.2.2.1.1) && gin (e.2.2.2.2.getD 2 0) (.selects e.2.2.2.1.1.cls e.2.2.2.1.1 e.2.2.2.1.1))
theorem gFL0_0 : gchkF 0 (11, 0, 0, 174) = true := by decide +kernel
theorem gFL0_1 : gchkF 0 (15, 0, 1, 176) = true := by decide +kernel
theorem gFL0_2 : gchkF 0 (61, 3, 1, 227) = true := by decide +kernel
theorem gFL0_ok : ∀ e ∈ gFL0, gchkF 0 e = true := List.forall_mem_cons.mpr ⟨gFL0_0, List.forall_mem_cons.mpr ⟨gFL0_1, List.forall_mem_cons.mpr ⟨gFL0_2, fun _ h => absurd h List.not_mem_nil⟩⟩⟩
theorem gFL1_0 : gchkF 1 (9, 1, 0, 73) = true := by decide +kernel
theorem gFL1_1 : gchkF 1 (15, 1, 1, 74) = true := by decide +kernel
theorem gFL1_2 : gchkF 1 (24, 8, 0, 207) = true := by decide +kernel
theorem gFL1_3 : gchkF 1 (29, 8, 1, 211) = true := by decide +kernel
theorem gFL1_ok : ∀ e ∈ gFL1, gchkF 1 e = true := List.forall_mem_cons.mpr ⟨gFL1_0, List.forall_mem_cons.mpr ⟨gFL1_1, List.forall_mem_cons.mpr ⟨gFL1_2, List.forall_mem_cons.mpr ⟨gFL1_3, fun _ h => absurd h List.not_mem_nil⟩⟩⟩⟩
theorem gFL2_0 : gchkF 2 (9, 2, 0, 158) = true := by decide +kernel
theorem gFL2_1 : gchkF 2 (13, 2, 1, 159) = true := by decide +kernel
theorem gFL2_2 : gchkF 2 (16, 2, 2, 160) = true := by decide +kernel
theorem gFL2_ok : ∀ e ∈ gFL2, gchkF 2 e = true := List.forall_mem_cons.mpr ⟨gFL2_0, List.forall_mem_cons.mpr ⟨gFL2_1, List.forall_mem_cons.mpr ⟨gFL2_2, fun _ h => absurd h List.not_mem_nil⟩⟩⟩
theorem gFL3_0 : gchkF 3 (25, 8, 0, 208) = true := by decide +kernel
theorem gFL3_1 : gchkF 3 (30, 8, 1, 212) = true := by decide +kernel
theorem gFL3_2 : gchkF 3 (9, 3, 0, 224) = true := by decide +kernel
theorem gFL3_3 : gchkF 3 (15, 3, 1, 226) = true := by decide +kernel
theorem gFL3_ok : ∀ e ∈ gFL3, gchkF 3 e = true := List.forall_mem_cons.mpr ⟨gFL3_0, List.forall_mem_cons.mpr ⟨gFL3_1, List.forall_mem_cons.mpr ⟨gFL3_2, List.forall_mem_cons.mpr ⟨gFL3_3, fun _ h => absurd h List.not_mem_nil⟩⟩⟩⟩
theorem gFL4_0 : gchkF 4 (11, 4, 0, 145) = true := by decide +kernel
theorem gFL4_1 : gchkF 4 (15, 4, 1, 146) = true := by decide +kernel
theorem gFL4_ok : ∀ e ∈ gFL4, gchkF 4 e = true := List.forall_mem_cons.mpr ⟨gFL4_0, List.forall_mem_cons.mpr ⟨gFL4_1, fun _ h => absurd h List.not_mem_nil⟩⟩
theorem gFL5_0 : gchkF 5 (58, 7, 2, 91) = true := by decide +kernel
theorem gFL5_1 : gchkF 5 (36, 7, 4, 94) = true := by decide +kernel
theorem gFL5_2 : gchkF 5 (55, 7, 5, 96) = true := by decide +kernel
theorem gFL5_3 : gchkF 5 (13, 5, 0, 117) = true := by decide +kernel
theorem gFL5_4 : gchkF 5 (17, 5, 1, 119) = true := by decide +kernel
theorem gFL5_5 : gchkF 5 (20, 5, 2, 121) = true := by decide +kernel
theorem gFL5_6 : gchkF 5 (24, 5, 3, 123) = true := by decide +kernel
theorem gFL5_7 : gchkF 5 (27, 5, 4, 125) = true := by decide +kernel
theorem gFL5_ok : ∀ e ∈ gFL5, gchkF 5 e = true := List.forall_mem_cons.mpr ⟨gFL5_0, List.forall_mem_cons.mpr ⟨gFL5_1, List.forall_mem_cons.mpr ⟨gFL5_2, List.forall_mem_cons.mpr ⟨gFL5_3, List.forall_mem_cons.mpr ⟨gFL5_4, List.forall_mem_cons.mpr ⟨gFL5_5, List.forall_mem_cons.mpr ⟨gFL5_6, List.forall_mem_cons.mpr ⟨gFL5_7, fun _ h => absurd h List.not_mem_nil⟩⟩⟩⟩⟩⟩⟩⟩
theorem gFL6_0 : gchkF 6 (9, 6, 0, 188) = true := by decide +kernel
theorem gFL6_1 : gchkF 6 (15, 6, 1, 190) = true := by decide +kernel
theorem gFL6_2 : gchkF 6 (19, 6, 2, 192) = true := by decide +kernel
theorem gFL6_ok : ∀ e ∈ gFL6, gchkF 6 e = true := List.forall_mem_cons.mpr ⟨gFL6_0, List.forall_mem_cons.mpr ⟨gFL6_1, List.forall_mem_cons.mpr ⟨gFL6_2, fun _ h => absurd h List.not_mem_nil⟩⟩⟩
theorem gFL7_0 : gchkF 7 (9, 7, 0, 87) = true := by decide +kernel
theorem gFL7_1 : gchkF 7 (13, 7, 1, 88) = true := by decide +kernel
theorem gFL7_2 : gchkF 7 (17, 7, 2, 90) = true := by decide +kernel
theorem gFL7_3 : gchkF 7 (20, 7, 3, 92) = true := by decide +kernel
theorem gFL7_4 : gchkF 7 (23, 7, 4, 93) = true := by decide +kernel
theorem gFL7_5 : gchkF 7 (26, 7, 5, 95) = true := by decide +kernel
theorem gFL7_ok : ∀ e ∈ gFL7, gchkF 7 e = true := List.forall_mem_cons.mpr ⟨gFL7_0, List.forall_mem_cons.mpr ⟨gFL7_1, List.forall_mem_cons.mpr ⟨gFL7_2, List.forall_mem_cons.mpr ⟨gFL7_3, List.forall_mem_cons.mpr ⟨gFL7_4, List.forall_mem_cons.mpr ⟨gFL7_5, fun _ h => absurd h List.not_mem_nil⟩⟩⟩⟩⟩⟩
theorem gFL8_0 : gchkF 8 (9, 8, 0, 206) = true := by decide +kernel
theorem gFL8_1 : gchkF 8 (15, 8, 1, 210) = true := by decide +kernel
theorem gFL8_ok : ∀ e ∈ gFL8, gchkF 8 e = true := List.forall_mem_cons.mpr ⟨gFL8_0, List.forall_mem_cons.mpr ⟨gFL8_1, fun _ h => absurd h List.not_mem_nil⟩⟩
theorem gFL9_0 : gchkF 9 (132, 7, 1, 89) = true := by decide +kernel
theorem gFL9_1 : gchkF 9 (153, 5, 0, 118) = true := by decide +kernel
theorem gFL9_2 : gchkF 9 (306, 5, 1, 120) = true := by decide +kernel
theorem gFL9_3 : gchkF 9 (150, 5, 2, 122) = true := by decide +kernel
theorem gFL9_4 : gchkF 9 (143, 5, 3, 124) = true := by decide +kernel
theorem gFL9_5 : gchkF 9 (147, 5, 4, 126) = true := by decide +kernel
theorem gFL9_6 : gchkF 9 (285, 0, 0, 175) = true := by decide +kernel
theorem gFL9_7 : gchkF 9 (282, 0, 1, 177) = true := by decide +kernel
theorem gFL9_8 : gchkF 9 (106, 6, 0, 189) = true := by decide +kernel
theorem gFL9_9 : gchkF 9 (113, 6, 1, 191) = true := by decide +kernel
theorem gFL9_10 : gchkF 9 (122, 6, 2, 193) = true := by decide +kernel
theorem gFL9_11 : gchkF 9 (178, 8, 0, 209) = true := by decide +kernel
theorem gFL9_12 : gchkF 9 (181, 8, 1, 213) = true := by decide +kernel
theorem gFL9_13 : gchkF 9 (211, 3, 0, 225) = true := by decide +kernel
theorem gFL9_14 : gchkF 9 (214, 3, 1, 228) = true := by decide +kernel
theorem gFL9_15 : gchkF 9 (11, 9, 0, 234) = true := by decide +kernel
theorem gFL9_16 : gchkF 9 (17, 9, 1, 235) = true := by decide +kernel
theorem gFL9_17 : gchkF 9 (23, 9, 2, 236) = true := by decide +kernel
theorem gFL9_18 : gchkF 9 (30, 9, 3, 237) = true := by decide +kernel
theorem gFL9_19 : gchkF 9 (37, 9, 4, 238) = true := by decide +kernel
theorem gFL9_20 : gchkF 9 (44, 9, 5, 239) = true := by decide +kernel
theorem gFL9_21 : gchkF 9 (51, 9, 6, 240) = true := by decide +kernel
theorem gFL9_22 : gchkF 9 (58, 9, 7, 241) = true := by decide +kernel
theorem gFL9_23 : gchkF 9 (65, 9, 8, 242) = true := by decide +kernel
theorem gFL9_24 : gchkF 9 (69, 9, 9, 243) = true := by decide +kernel
theorem gFL9_25 : gchkF 9 (73, 9, 10, 244) = true := by decide +kernel
theorem gFL9_ok : ∀ e ∈ gFL9, gchkF 9 e = true := List.forall_mem_cons.mpr ⟨gFL9_0, List.forall_mem_cons.mpr ⟨gFL9_1, List.forall_mem_cons.mpr ⟨gFL9_2, List.forall_mem_cons.mpr ⟨gFL9_3, List.forall_mem_cons.mpr ⟨gFL9_4, List.forall_mem_cons.mpr ⟨gFL9_5, List.forall_mem_cons.mpr ⟨gFL9_6, List.forall_mem_cons.mpr ⟨gFL9_7, List.forall_mem_cons.mpr ⟨gFL9_8, List.forall_mem_cons.mpr ⟨gFL9_9, List.forall_mem_cons.mpr ⟨gFL9_10, List.forall_mem_cons.mpr ⟨gFL9_11, List.forall_mem_cons.mpr ⟨gFL9_12, List.forall_mem_cons.mpr ⟨gFL9_13, List.forall_mem_cons.mpr ⟨gFL9_14, List.forall_mem_cons.mpr ⟨gFL9_15, List.forall_mem_cons.mpr ⟨gFL9_16, List.forall_mem_cons.mpr ⟨gFL9_17, List.forall_mem_cons.mpr ⟨gFL9_18, List.forall_mem_cons.mpr ⟨gFL9_19, List.forall_mem_cons.mpr ⟨gFL9_20, List.forall_mem_cons.mpr ⟨gFL9_21, List.forall_mem_cons.mpr ⟨gFL9_22, List.forall_mem_cons.mpr ⟨gFL9_23, List.forall_mem_cons.mpr ⟨gFL9_24, List.forall_mem_cons.mpr ⟨gFL9_25, fun _ h => absurd h List.not_mem_nil⟩⟩⟩⟩⟩⟩⟩⟩⟩⟩⟩⟩⟩⟩⟩⟩⟩⟩⟩⟩⟩⟩⟩⟩⟩⟩
theorem gFL10_0 : gchkF 10 (44, 10, 0, 838) = true := by decide +kernel
theorem gFL10_1 : gchkF 10 (48, 10, 1, 839) = true := by decide +kernel
theorem gFL10_2 : gchkF 10 (7, 10, 2, 840) = true := by decide +kernel
theorem gFL10_3 : gchkF 10 (13, 10, 3, 841) = true := by decide +kernel
theorem gFL10_4 : gchkF 10 (16, 10, 4, 842) = true := by decide +kernel
theorem gFL10_5 : gchkF 10 (19, 10, 5, 843) = true := by decide +kernel
theorem gFL10_6 : gchkF 10 (22, 10, 6, 844) = true := by decide +kernel
theorem gFL10_7 : gchkF 10 (25, 10, 7, 845) = true := by decide +kernel
theorem gFL10_8 : gchkF 10 (29, 10, 8, 846) = true := by decide +kernel
theorem gFL10_9 : gchkF 10 (32, 10, 9, 847) = true := by decide +kernel
theorem gFL10_10 : gchkF 10 (112, 10, 10, 848) = true := by decide +kernel
theorem gFL10_11 : gchkF 10 (199, 10, 11, 849) = true := by decide +kernel
theorem gFL10_12 : gchkF 10 (117, 10, 12, 850) = true := by decide +kernel
theorem gFL10_13 : gchkF 10 (120, 10, 13, 851) = true := by decide +kernel
theorem gFL10_14 : gchkF 10 (129, 10, 14, 852) = true := by decide +kernel
theorem gFL10_15 : gchkF 10 (126, 10, 15, 853) = true := by decide +kernel
theorem gFL10_16 : gchkF 10 (138, 10, 16, 854) = true := by decide +kernel
theorem gFL10_17 : gchkF 10 (141, 10, 17, 855) = true := by decide +kernel
theorem gFL10_18 : gchkF 10 (144, 10, 18, 856) = true := by decide +kernel
theorem gFL10_19 : gchkF 10 (185, 10, 19, 857) = true := by decide +kernel
theorem gFL10_20 : gchkF 10 (173, 10, 20, 858) = true := by decide +kernel
theorem gFL10_21 : gchkF 10 (35, 10, 21, 859) = true := by decide +kernel
theorem gFL10_22 : gchkF 10 (38, 10, 22, 860) = true := by decide +kernel
theorem gFL10_23 : gchkF 10 (41, 10, 23, 861) = true := by decide +kernel
theorem gFL10_24 : gchkF 10 (248, 10, 24, 862) = true := by decide +kernel
theorem gFL10_ok : ∀ e ∈ gFL10, gchkF 10 e = true := List.forall_mem_cons.mpr ⟨gFL10_0, List.forall_mem_cons.mpr ⟨gFL10_1, List.forall_mem_cons.mpr ⟨gFL10_2, List.forall_mem_cons.mpr ⟨gFL10_3, List.forall_mem_cons.mpr ⟨gFL10_4, List.forall_mem_cons.mpr ⟨gFL10_5, List.forall_mem_cons.mpr ⟨gFL10_6, List.forall_mem_cons.mpr ⟨gFL10_7, List.forall_mem_cons.mpr ⟨gFL10_8, List.forall_mem_cons.mpr ⟨gFL10_9, List.forall_mem_cons.mpr ⟨gFL10_10, List.forall_mem_cons.mpr ⟨gFL10_11, List.forall_mem_cons.mpr ⟨gFL10_12, List.forall_mem_cons.mpr ⟨gFL10_13, List.forall_mem_cons.mpr ⟨gFL10_14, List.forall_mem_cons.mpr ⟨gFL10_15, List.forall_mem_cons.mpr ⟨gFL10_16, List.forall_mem_cons.mpr ⟨gFL10_17, List.forall_mem_cons.mpr ⟨gFL10_18, List.forall_mem_cons.mpr ⟨gFL10_19, List.forall_mem_cons.mpr ⟨gFL10_20, List.forall_mem_cons.mpr ⟨gFL10_21, List.forall_mem_cons.mpr ⟨gFL10_22, List.forall_mem_cons.mpr ⟨gFL10_23, List.forall_mem_cons.mpr ⟨gFL10_24, fun _ h => absurd h List.not_mem_nil⟩⟩⟩⟩⟩⟩⟩⟩⟩⟩⟩⟩⟩⟩⟩⟩⟩⟩⟩⟩⟩⟩⟩⟩⟩
theorem gFL11_ok : ∀ e ∈ gFL11, gchkF 11 e = true := fun _ h => absurd h List.not_mem_nil
theorem gFL12_ok : ∀ e ∈ gFL12, gchkF 12 e = true := fun _ h => absurd h List.not_mem_nil
theorem gFL13_ok : ∀ e ∈ gFL13, gchkF 13 e = true := fun _ h => absurd h List.not_mem_nil
theorem gFL14_ok : ∀ e ∈ gFL14, gchkF 14 e = true := fun _ h => absurd h List.not_mem_nil
theorem gFL15_ok : ∀ e ∈ gFL15, gchkF 15 e = true := fun _ h => absurd h List.not_mem_nil
theorem gFL16_ok : ∀ e ∈ gFL16, gchkF 16 e = true := fun _ h => absurd h List.not_mem_nil
theorem gFL17_ok : ∀ e ∈ gFL17, gchkF 17 e = true := fun _ h => absurd h List.not_mem_nil
theorem gFL18_ok : ∀ e ∈ gFL18, gchkF 18 e = true := fun _ h => absurd h List.not_mem_nil
theorem gFL19_ok : ∀ e ∈ gFL19, gchkF 19 e = true := fun _ h => absurd h List.not_mem_nil
theorem gFL_ok : ∀ (o : Nat), ∀ e ∈ gFL o, gchkF o e = true
  | 0 => gFL0_ok
  | 1 => gFL1_ok
  | 2 => gFL2_ok
  | 3 => gFL3_ok
  | 4 => gFL4_ok
  | 5 => gFL5_ok
  | 6 => gFL6_ok
  | 7 => gFL7_ok
  | 8 => gFL8_ok
  | 9 => gFL9_ok
  | 10 => gFL10_ok
  | 11 => gFL11_ok
  | 12 => gFL12_ok
  | 13 => gFL13_ok
  | 14 => gFL14_ok
  | 15 => gFL15_ok
  | 16 => gFL16_ok
  | 17 => gFL17_ok
  | 18 => gFL18_ok
  | 19 => gFL19_ok
  | _ + 20 => fun _ h => absurd h List.not_mem_nil
theorem gCL0_ok : ∀ e ∈ gCL0, gchkC 0 e = true := fun _ h => absurd h List.not_mem_nil
theorem gCL1_0 : gchkC 1 (61, .inr (.inl 1000000), 520) = true := by decide +kernel
theorem gCL1_1 : gchkC 1 (53, .inr (.inl 16), 536) = true := by decide +kernel
theorem gCL1_ok : ∀ e ∈ gCL1, gchkC 1 e = true := List.forall_mem_cons.mpr ⟨gCL1_0, List.forall_mem_cons.mpr ⟨gCL1_1, fun _ h => absurd h List.not_mem_nil⟩⟩
theorem gCL2_ok : ∀ e ∈ gCL2, gchkC 2 e = true := fun _ h => absurd h List.not_mem_nil
theorem gCL3_0 : gchkC 3 (37, .inr (.inl 255), 577) = true := by decide +kernel
theorem gCL3_1 : gchkC 3 (51, .inl 65535, 689) = true := by decide +kernel
theorem gCL3_ok : ∀ e ∈ gCL3, gchkC 3 e = true := List.forall_mem_cons.mpr ⟨gCL3_0, List.forall_mem_cons.mpr ⟨gCL3_1, fun _ h => absurd h List.not_mem_nil⟩⟩
theorem gCL4_0 : gchkC 4 (31, .inl (-1000000), 671) = true := by decide +kernel
theorem gCL4_ok : ∀ e ∈ gCL4, gchkC 4 e = true := List.forall_mem_cons.mpr ⟨gCL4_0, fun _ h => absurd h List.not_mem_nil⟩
theorem gCL5_ok : ∀ e ∈ gCL5, gchkC 5 e = true := fun _ h => absurd h List.not_mem_nil
theorem gCL6_ok : ∀ e ∈ gCL6, gchkC 6 e = true := fun _ h => absurd h List.not_mem_nil
theorem gCL7_ok : ∀ e ∈ gCL7, gchkC 7 e = true := fun _ h => absurd h List.not_mem_nil
theorem gCL8_ok : ∀ e ∈ gCL8, gchkC 8 e = true := fun _ h => absurd h List.not_mem_nil
theorem gCL9_0 : gchkC 9 (87, .inl (-1000001), 278) = true := by decide +kernel
theorem gCL9_1 : gchkC 9 (297, .inl (-1000010), 283) = true := by decide +kernel
theorem gCL9_2 : gchkC 9 (135, .inl (-1000003), 334) = true := by decide +kernel
theorem gCL9_3 : gchkC 9 (146, .inl (-1000100), 457) = true := by decide +kernel
theorem gCL9_4 : gchkC 9 (169, .inl (-1000002), 537) = true := by decide +kernel
theorem gCL9_5 : gchkC 9 (184, .inr (.inl (-1000001)), 550) = true := by decide +kernel
theorem gCL9_6 : gchkC 9 (186, .inl (-1000000), 551) = true := by decide +kernel
theorem gCL9_7 : gchkC 9 (201, .inl 100000, 568) = true := by decide +kernel
theorem gCL9_8 : gchkC 9 (304, .inr (.inl 2), 621) = true := by decide +kernel
theorem gCL9_9 : gchkC 9 (244, .inl 65536, 680) = true := by decide +kernel
theorem gCL9_ok : ∀ e ∈ gCL9, gchkC 9 e = true := List.forall_mem_cons.mpr ⟨gCL9_0, List.forall_mem_cons.mpr ⟨gCL9_1, List.forall_mem_cons.mpr ⟨gCL9_2, List.forall_mem_cons.mpr ⟨gCL9_3, List.forall_mem_cons.mpr ⟨gCL9_4, List.forall_mem_cons.mpr ⟨gCL9_5, List.forall_mem_cons.mpr ⟨gCL9_6, List.forall_mem_cons.mpr ⟨gCL9_7, List.forall_mem_cons.mpr ⟨gCL9_8, List.forall_mem_cons.mpr ⟨gCL9_9, fun _ h => absurd h List.not_mem_nil⟩⟩⟩⟩⟩⟩⟩⟩⟩⟩
theorem gCL10_0 : gchkC 10 (52, .inr (.inl 7), 921) = true := by decide +kernel
theorem gCL10_1 : gchkC 10 (62, .inr (.inl 2), 925) = true := by decide +kernel
theorem gCL10_2 : gchkC 10 (64, .inl (-1000001), 926) = true := by decide +kernel
theorem gCL10_3 : gchkC 10 (51, .inl (-1000010), 931) = true := by decide +kernel
theorem gCL10_4 : gchkC 10 (89, .inr (.inl 16), 961) = true := by decide +kernel
theorem gCL10_5 : gchkC 10 (91, .inl (-1000002), 962) = true := by decide +kernel
theorem gCL10_6 : gchkC 10 (71, .inr (.inl (-1000000)), 967) = true := by decide +kernel
theorem gCL10_7 : gchkC 10 (73, .inr (.inl 1000000), 968) = true := by decide +kernel
theorem gCL10_8 : gchkC 10 (95, .inl (-1000003), 969) = true := by decide +kernel
theorem gCL10_9 : gchkC 10 (69, .inr (.inl 15), 985) = true := by decide +kernel
theorem gCL10_10 : gchkC 10 (103, .inl (-1000000), 990) = true := by decide +kernel
theorem gCL10_11 : gchkC 10 (104, .inr (.inl (-1000001)), 991) = true := by decide +kernel
theorem gCL10_12 : gchkC 10 (110, .inr (.inl 8), 1004) = true := by decide +kernel
theorem gCL10_13 : gchkC 10 (115, .inr (.inl 255), 1005) = true := by decide +kernel
theorem gCL10_14 : gchkC 10 (161, .inr (.inl 482905517684), 1036) = true := by decide +kernel
theorem gCL10_15 : gchkC 10 (163, .inr (.inl 482854661733), 1037) = true := by decide +kernel
theorem gCL10_16 : gchkC 10 (165, .inr (.inl 6580589), 1038) = true := by decide +kernel
theorem gCL10_17 : gchkC 10 (167, .inr (.inl 1953854062), 1039) = true := by decide +kernel
theorem gCL10_18 : gchkC 10 (169, .inr (.inl 6382692), 1040) = true := by decide +kernel
theorem gCL10_19 : gchkC 10 (171, .inr (.inl 7823737), 1041) = true := by decide +kernel
theorem gCL10_20 : gchkC 10 (180, .inr (.inl 2003398757), 1042) = true := by decide +kernel
theorem gCL10_21 : gchkC 10 (202, .inl (-1000100), 1063) = true := by decide +kernel
theorem gCL10_22 : gchkC 10 (203, .inr (.inl 5), 1075) = true := by decide +kernel
theorem gCL10_23 : gchkC 10 (208, .inr (.inl 100000), 1076) = true := by decide +kernel
theorem gCL10_24 : gchkC 10 (219, .inr (.inl 3), 1104) = true := by decide +kernel
theorem gCL10_25 : gchkC 10 (232, .inr (.inl 65535), 1132) = true := by decide +kernel
theorem gCL10_26 : gchkC 10 (238, .inl 65536, 1137) = true := by decide +kernel
theorem gCL10_27 : gchkC 10 (242, .inr (.inl 4), 1154) = true := by decide +kernel
theorem gCL10_ok : ∀ e ∈ gCL10, gchkC 10 e = true := List.forall_mem_cons.mpr ⟨gCL10_0, List.forall_mem_cons.mpr ⟨gCL10_1, List.forall_mem_cons.mpr ⟨gCL10_2, List.forall_mem_cons.mpr ⟨gCL10_3, List.forall_mem_cons.mpr ⟨gCL10_4, List.forall_mem_cons.mpr ⟨gCL10_5, List.forall_mem_cons.mpr ⟨gCL10_6, List.forall_mem_cons.mpr ⟨gCL10_7, List.forall_mem_cons.mpr ⟨gCL10_8, List.forall_mem_cons.mpr ⟨gCL10_9, List.forall_mem_cons.mpr ⟨gCL10_10, List.forall_mem_cons.mpr ⟨gCL10_11, List.forall_mem_cons.mpr ⟨gCL10_12, List.forall_mem_cons.mpr ⟨gCL10_13, List.forall_mem_cons.mpr ⟨gCL10_14, List.forall_mem_cons.mpr ⟨gCL10_15, List.forall_mem_cons.mpr ⟨gCL10_16, List.forall_mem_cons.mpr ⟨gCL10_17, List.forall_mem_cons.mpr ⟨gCL10_18, List.forall_mem_cons.mpr ⟨gCL10_19, List.forall_mem_cons.mpr ⟨gCL10_20, List.forall_mem_cons.mpr ⟨gCL10_21, List.forall_mem_cons.mpr ⟨gCL10_22, List.forall_mem_cons.mpr ⟨gCL10_23, List.forall_mem_cons.mpr ⟨gCL10_24, List.forall_mem_cons.mpr ⟨gCL10_25, List.forall_mem_cons.mpr ⟨gCL10_26, List.forall_mem_cons.mpr ⟨gCL10_27, fun _ h => absurd h List.not_mem_nil⟩⟩⟩⟩⟩⟩⟩⟩⟩⟩⟩⟩⟩⟩⟩⟩⟩⟩⟩⟩⟩⟩⟩⟩⟩⟩⟩⟩
theorem gCL11_0 : gchkC 11 (32, .inr (.inl 4294967295), 1190) = true := by decide +kernel
theorem gCL11_ok : ∀ e ∈ gCL11, gchkC 11 e = true := List.forall_mem_cons.mpr ⟨gCL11_0, fun _ h => absurd h List.not_mem_nil⟩
theorem gCL12_0 : gchkC 12 (265, .inl 1431655765, 652) = true := by decide +kernel
theorem gCL12_1 : gchkC 12 (266, .inl 858993459, 653) = true := by decide +kernel
theorem gCL12_2 : gchkC 12 (267, .inl 252645135, 654) = true := by decide +kernel
theorem gCL12_ok : ∀ e ∈ gCL12, gchkC 12 e = true := List.forall_mem_cons.mpr ⟨gCL12_0, List.forall_mem_cons.mpr ⟨gCL12_1, List.forall_mem_cons.mpr ⟨gCL12_2, fun _ h => absurd h List.not_mem_nil⟩⟩⟩
theorem gCL13_ok : ∀ e ∈ gCL13, gchkC 13 e = true := fun _ h => absurd h List.not_mem_nil
theorem gCL14_ok : ∀ e ∈ gCL14, gchkC 14 e = true := fun _ h => absurd h List.not_mem_nil
theorem gCL15_ok : ∀ e ∈ gCL15, gchkC 15 e = true := fun _ h => absurd h List.not_mem_nil
theorem gCL16_ok : ∀ e ∈ gCL16, gchkC 16 e = true := fun _ h => absurd h List.not_mem_nil
theorem gCL17_ok : ∀ e ∈ gCL17, gchkC 17 e = true := fun _ h => absurd h List.not_mem_nil
theorem gCL18_ok : ∀ e ∈ gCL18, gchkC 18 e = true := fun _ h => absurd h List.not_mem_nil
theorem gCL19_ok : ∀ e ∈ gCL19, gchkC 19 e = true := fun _ h => absurd h List.not_mem_nil
theorem gCL_ok : ∀ (o : Nat), ∀ e ∈ gCL o, gchkC o e = true
  | 0 => gCL0_ok
  | 1 => gCL1_ok
  | 2 => gCL2_ok
  | 3 => gCL3_ok
  | 4 => gCL4_ok
  | 5 => gCL5_ok
  | 6 => gCL6_ok
  | 7 => gCL7_ok
  | 8 => gCL8_ok
  | 9 => gCL9_ok
  | 10 => gCL10_ok
  | 11 => gCL11_ok
  | 12 => gCL12_ok
  | 13 => gCL13_ok
  | 14 => gCL14_ok
  | 15 => gCL15_ok
  | 16 => gCL16_ok
  | 17 => gCL17_ok
  | 18 => gCL18_ok
  | 19 => gCL19_ok
  | _ + 20 => fun _ h => absurd h List.not_mem_nil
theorem gIL0_0 : gchkI 0 (19, 103, 1, myX3_kindTold, [751, 722, 723, 724, 43]) = true := by decide +kernel
theorem gIL0_1 : gchkI 0 (25, 100, 2, myX0_sizeOfClear, [752, 753, 754, 755, 40]) = true := by decide +kernel
theorem gIL0_2 : gchkI 0 (54, 100, 2, myX0_begin, [756, 757, 758, 759, 40]) = true := by decide +kernel
theorem gIL0_3 : gchkI 0 (39, 100, 2, myX0_sizeLent, [760, 761, 762, 763, 40]) = true := by decide +kernel
theorem gIL0_4 : gchkI 0 (58, 103, 1, myX3_total, [764, 686, 687, 688, 43]) = true := by decide +kernel
theorem gIL0_5 : gchkI 0 (29, 100, 2, myX0_sizeOfFully, [765, 766, 767, 768, 40]) = true := by decide +kernel
theorem gIL0_6 : gchkI 0 (32, 100, 3, myX0_sizeOfTorn, [769, 770, 771, 772, 40]) = true := by decide +kernel
theorem gIL0_7 : gchkI 0 (64, 100, 3, myX0_markAsked, [773, 774, 775, 776, 40]) = true := by decide +kernel
theorem gIL0_8 : gchkI 0 (42, 100, 2, myX0_markOfClear, [777, 778, 779, 780, 40]) = true := by decide +kernel
theorem gIL0_9 : gchkI 0 (51, 100, 2, myX0_markLent, [781, 782, 783, 784, 40]) = true := by decide +kernel
theorem gIL0_10 : gchkI 0 (67, 103, 1, myX3_greatest, [785, 786, 787, 788, 43]) = true := by decide +kernel
theorem gIL0_11 : gchkI 0 (45, 100, 3, myX0_markOfFully, [789, 790, 791, 792, 40]) = true := by decide +kernel
theorem gIL0_12 : gchkI 0 (70, 100, 3, myX0_sizeAsked, [793, 748, 749, 750, 40]) = true := by decide +kernel
theorem gIL0_13 : gchkI 0 (48, 100, 2, myX0_markOfTorn, [794, 795, 796, 797, 40]) = true := by decide +kernel
theorem gIL0_14 : gchkI 0 (73, 103, 1, myX3_lostOnes, [798, 627, 628, 629, 43]) = true := by decide +kernel
theorem gIL0_15 : gchkI 0 (36, 100, 3, myX0_sizeOfBlind, [799, 800, 801, 802, 40]) = true := by decide +kernel
theorem gIL0_ok : ∀ e ∈ gIL0, gchkI 0 e = true := List.forall_mem_cons.mpr ⟨gIL0_0, List.forall_mem_cons.mpr ⟨gIL0_1, List.forall_mem_cons.mpr ⟨gIL0_2, List.forall_mem_cons.mpr ⟨gIL0_3, List.forall_mem_cons.mpr ⟨gIL0_4, List.forall_mem_cons.mpr ⟨gIL0_5, List.forall_mem_cons.mpr ⟨gIL0_6, List.forall_mem_cons.mpr ⟨gIL0_7, List.forall_mem_cons.mpr ⟨gIL0_8, List.forall_mem_cons.mpr ⟨gIL0_9, List.forall_mem_cons.mpr ⟨gIL0_10, List.forall_mem_cons.mpr ⟨gIL0_11, List.forall_mem_cons.mpr ⟨gIL0_12, List.forall_mem_cons.mpr ⟨gIL0_13, List.forall_mem_cons.mpr ⟨gIL0_14, List.forall_mem_cons.mpr ⟨gIL0_15, fun _ h => absurd h List.not_mem_nil⟩⟩⟩⟩⟩⟩⟩⟩⟩⟩⟩⟩⟩⟩⟩⟩
theorem gIL1_0 : gchkI 1 (31, 101, 4, myX1_put, [466, 467, 468, 469, 35]) = true := by decide +kernel
theorem gIL1_1 : gchkI 1 (35, 2, 3, myX9_turnedRe, [478, 479, 0, 480, 34]) = true := by decide +kernel
theorem gIL1_2 : gchkI 1 (39, 2, 3, myX9_turnedIm, [481, 482, 0, 483, 34]) = true := by decide +kernel
theorem gIL1_3 : gchkI 1 (42, 2, 3, myX9_lean, [488, 489, 0, 490, 34]) = true := by decide +kernel
theorem gIL1_4 : gchkI 1 (46, 101, 5, myX1_addTurned, [491, 475, 476, 477, 35]) = true := by decide +kernel
theorem gIL1_5 : gchkI 1 (50, 101, 1, myX1_darken, [505, 506, 507, 508, 35]) = true := by decide +kernel
theorem gIL1_6 : gchkI 1 (18, 0, 2, myJ7_fill_d0a16, [509, 510, 0, 511, 45]) = true := by decide +kernel
theorem gIL1_7 : gchkI 1 (55, 0, 1, myJ9_abs_067f4, [517, 518, 0, 519, 51]) = true := by decide +kernel
theorem gIL1_ok : ∀ e ∈ gIL1, gchkI 1 e = true := List.forall_mem_cons.mpr ⟨gIL1_0, List.forall_mem_cons.mpr ⟨gIL1_1, List.forall_mem_cons.mpr ⟨gIL1_2, List.forall_mem_cons.mpr ⟨gIL1_3, List.forall_mem_cons.mpr ⟨gIL1_4, List.forall_mem_cons.mpr ⟨gIL1_5, List.forall_mem_cons.mpr ⟨gIL1_6, List.forall_mem_cons.mpr ⟨gIL1_7, fun _ h => absurd h List.not_mem_nil⟩⟩⟩⟩⟩⟩⟩⟩
theorem gIL2_0 : gchkI 2 (19, 102, 4, myX2_sumUp, [695, 696, 697, 698, 39]) = true := by decide +kernel
theorem gIL2_1 : gchkI 2 (23, 103, 2, myX3_shown, [699, 610, 611, 612, 43]) = true := by decide +kernel
theorem gIL2_2 : gchkI 2 (29, 102, 4, myX2_merge, [700, 701, 702, 703, 39]) = true := by decide +kernel
theorem gIL2_ok : ∀ e ∈ gIL2, gchkI 2 e = true := List.forall_mem_cons.mpr ⟨gIL2_0, List.forall_mem_cons.mpr ⟨gIL2_1, List.forall_mem_cons.mpr ⟨gIL2_2, fun _ h => absurd h List.not_mem_nil⟩⟩⟩
theorem gIL3_0 : gchkI 3 (19, 0, 2, myJ9_max_7cf53, [573, 574, 0, 575, 51]) = true := by decide +kernel
theorem gIL3_1 : gchkI 3 (33, 2, 2, myX9_brightOf, [576, 553, 0, 554, 34]) = true := by decide +kernel
theorem gIL3_2 : gchkI 3 (39, 0, 2, myJ9_min_f86c9, [578, 579, 0, 580, 51]) = true := by decide +kernel
theorem gIL3_3 : gchkI 3 (42, 103, 2, myX3_howMany, [585, 586, 587, 588, 43]) = true := by decide +kernel
theorem gIL3_4 : gchkI 3 (46, 103, 2, myX3_shown, [609, 610, 611, 612, 43]) = true := by decide +kernel
theorem gIL3_5 : gchkI 3 (52, 103, 2, myX3_totalWithin, [690, 682, 683, 684, 43]) = true := by decide +kernel
theorem gIL3_6 : gchkI 3 (55, 103, 1, myX3_lostOnes, [725, 627, 628, 629, 43]) = true := by decide +kernel
theorem gIL3_7 : gchkI 3 (59, 103, 1, myX3_whiteOnes, [726, 582, 583, 584, 43]) = true := by decide +kernel
theorem gIL3_8 : gchkI 3 (62, 103, 1, myX3_kindTold, [735, 722, 723, 724, 43]) = true := by decide +kernel
theorem gIL3_9 : gchkI 3 (65, 0, 1, myX3_kindAbove, [736, 737, 0, 738, 43]) = true := by decide +kernel
theorem gIL3_ok : ∀ e ∈ gIL3, gchkI 3 e = true := List.forall_mem_cons.mpr ⟨gIL3_0, List.forall_mem_cons.mpr ⟨gIL3_1, List.forall_mem_cons.mpr ⟨gIL3_2, List.forall_mem_cons.mpr ⟨gIL3_3, List.forall_mem_cons.mpr ⟨gIL3_4, List.forall_mem_cons.mpr ⟨gIL3_5, List.forall_mem_cons.mpr ⟨gIL3_6, List.forall_mem_cons.mpr ⟨gIL3_7, List.forall_mem_cons.mpr ⟨gIL3_8, List.forall_mem_cons.mpr ⟨gIL3_9, fun _ h => absurd h List.not_mem_nil⟩⟩⟩⟩⟩⟩⟩⟩⟩⟩
theorem gIL4_0 : gchkI 4 (19, 0, 1, myX4_choices, [646, 647, 0, 648, 38]) = true := by decide +kernel
theorem gIL4_1 : gchkI 4 (32, 0, 1, myJ6_bitCount_0f7a4, [649, 650, 0, 651, 52]) = true := by decide +kernel
theorem gIL4_2 : gchkI 4 (23, 104, 3, myX4_spread, [655, 656, 657, 658, 38]) = true := by decide +kernel
theorem gIL4_3 : gchkI 4 (27, 104, 3, myX4_sends, [659, 660, 661, 662, 38]) = true := by decide +kernel
theorem gIL4_4 : gchkI 4 (37, 104, 2, myX4_farBright, [663, 664, 665, 666, 38]) = true := by decide +kernel
theorem gIL4_ok : ∀ e ∈ gIL4, gchkI 4 e = true := List.forall_mem_cons.mpr ⟨gIL4_0, List.forall_mem_cons.mpr ⟨gIL4_1, List.forall_mem_cons.mpr ⟨gIL4_2, List.forall_mem_cons.mpr ⟨gIL4_3, List.forall_mem_cons.mpr ⟨gIL4_4, fun _ h => absurd h List.not_mem_nil⟩⟩⟩⟩⟩
theorem gIL5_0 : gchkI 5 (30, 107, 1, myX7_rewind, [343, 344, 345, 346, 36]) = true := by decide +kernel
theorem gIL5_1 : gchkI 5 (33, 107, 1, myX7_next, [347, 348, 349, 350, 36]) = true := by decide +kernel
theorem gIL5_2 : gchkI 5 (39, 105, 2, myX5_readAct, [367, 368, 369, 370, 37]) = true := by decide +kernel
theorem gIL5_3 : gchkI 5 (43, 0, 1, myX5_verbOf, [371, 372, 0, 373, 37]) = true := by decide +kernel
theorem gIL5_4 : gchkI 5 (61, 0, 1, myX5_wordOf, [374, 375, 0, 376, 37]) = true := by decide +kernel
theorem gIL5_5 : gchkI 5 (65, 107, 2, myX7_spells, [384, 385, 386, 387, 36]) = true := by decide +kernel
theorem gIL5_6 : gchkI 5 (47, 105, 3, myX5_faulty, [436, 437, 438, 439, 37]) = true := by decide +kernel
theorem gIL5_7 : gchkI 5 (51, 0, 1, myX5_mostOf, [440, 441, 0, 442, 37]) = true := by decide +kernel
theorem gIL5_ok : ∀ e ∈ gIL5, gchkI 5 e = true := List.forall_mem_cons.mpr ⟨gIL5_0, List.forall_mem_cons.mpr ⟨gIL5_1, List.forall_mem_cons.mpr ⟨gIL5_2, List.forall_mem_cons.mpr ⟨gIL5_3, List.forall_mem_cons.mpr ⟨gIL5_4, List.forall_mem_cons.mpr ⟨gIL5_5, List.forall_mem_cons.mpr ⟨gIL5_6, List.forall_mem_cons.mpr ⟨gIL5_7, fun _ h => absurd h List.not_mem_nil⟩⟩⟩⟩⟩⟩⟩⟩
theorem gIL6_0 : gchkI 6 (22, 0, 2, myJ7_fill_53178, [288, 289, 0, 290, 45]) = true := by decide +kernel
theorem gIL6_ok : ∀ e ∈ gIL6, gchkI 6 e = true := List.forall_mem_cons.mpr ⟨gIL6_0, fun _ h => absurd h List.not_mem_nil⟩
theorem gIL7_0 : gchkI 7 (29, 107, 2, myX7_hasLetter, [351, 352, 353, 354, 36]) = true := by decide +kernel
theorem gIL7_1 : gchkI 7 (33, 107, 1, myX7_takeName, [355, 356, 357, 358, 36]) = true := by decide +kernel
theorem gIL7_2 : gchkI 7 (36, 107, 2, myX7_hasFigure, [359, 360, 361, 362, 36]) = true := by decide +kernel
theorem gIL7_3 : gchkI 7 (39, 107, 1, myX7_takeNumber, [363, 364, 365, 366, 36]) = true := by decide +kernel
theorem gIL7_4 : gchkI 7 (42, 114, 1, myJ0_length_8abf5, [388, 389, 390, 391, 47]) = true := by decide +kernel
theorem gIL7_5 : gchkI 7 (47, 114, 2, myJ0_charAt_5068e, [398, 399, 400, 401, 47]) = true := by decide +kernel
theorem gIL7_ok : ∀ e ∈ gIL7, gchkI 7 e = true := List.forall_mem_cons.mpr ⟨gIL7_0, List.forall_mem_cons.mpr ⟨gIL7_1, List.forall_mem_cons.mpr ⟨gIL7_2, List.forall_mem_cons.mpr ⟨gIL7_3, List.forall_mem_cons.mpr ⟨gIL7_4, List.forall_mem_cons.mpr ⟨gIL7_5, fun _ h => absurd h List.not_mem_nil⟩⟩⟩⟩⟩⟩
theorem gIL8_ok : ∀ e ∈ gIL8, gchkI 8 e = true := fun _ h => absurd h List.not_mem_nil
theorem gIL9_0 : gchkI 9 (79, 0, 1, myX9_isSheet, [272, 273, 0, 274, 34]) = true := by decide +kernel
theorem gIL9_1 : gchkI 9 (83, 0, 2, myX9_below, [275, 276, 0, 277, 34]) = true := by decide +kernel
theorem gIL9_2 : gchkI 9 (88, 109, 2, myX9_found, [279, 281, 0, 282, 34]) = true := by decide +kernel
theorem gIL9_3 : gchkI 9 (92, 106, 3, myX6_become, [284, 285, 286, 287, 41]) = true := by decide +kernel
theorem gIL9_4 : gchkI 9 (96, 109, 2, myX9_fine, [291, 293, 1, 294, 34]) = true := by decide +kernel
theorem gIL9_5 : gchkI 9 (99, 106, 1, myX6_isMissing, [299, 300, 301, 302, 41]) = true := by decide +kernel
theorem gIL9_6 : gchkI 9 (103, 106, 3, myX6_reaches, [303, 304, 305, 306, 41]) = true := by decide +kernel
theorem gIL9_7 : gchkI 9 (110, 106, 2, myX6_cut, [307, 308, 309, 310, 41]) = true := by decide +kernel
theorem gIL9_8 : gchkI 9 (125, 106, 1, myX6_goMissing, [322, 323, 324, 325, 41]) = true := by decide +kernel
theorem gIL9_9 : gchkI 9 (128, 107, 3, myX7_append, [330, 331, 332, 333, 36]) = true := by decide +kernel
theorem gIL9_10 : gchkI 9 (136, 105, 2, myX5_readAll, [339, 340, 341, 342, 37]) = true := by decide +kernel
theorem gIL9_11 : gchkI 9 (140, 107, 1, myX7_empty, [453, 454, 455, 456, 36]) = true := by decide +kernel
theorem gIL9_12 : gchkI 9 (156, 109, 3, myX9_perform, [458, 460, 2, 461, 34]) = true := by decide +kernel
theorem gIL9_13 : gchkI 9 (309, 101, 2, myX1_start, [462, 463, 464, 465, 35]) = true := by decide +kernel
theorem gIL9_14 : gchkI 9 (313, 109, 2, myX9_placeTold, [470, 472, 3, 473, 34]) = true := by decide +kernel
theorem gIL9_15 : gchkI 9 (316, 101, 5, myX1_addTurned, [474, 475, 476, 477, 35]) = true := by decide +kernel
theorem gIL9_16 : gchkI 9 (320, 101, 5, myX1_addPlane, [484, 485, 486, 487, 35]) = true := by decide +kernel
theorem gIL9_17 : gchkI 9 (174, 101, 4, myX1_put, [492, 467, 468, 469, 35]) = true := by decide +kernel
theorem gIL9_18 : gchkI 9 (324, 101, 3, myX1_turn, [493, 494, 495, 496, 35]) = true := by decide +kernel
theorem gIL9_19 : gchkI 9 (327, 101, 2, myX1_addWave, [497, 498, 499, 500, 35]) = true := by decide +kernel
theorem gIL9_20 : gchkI 9 (162, 101, 3, myX1_sendOn, [501, 502, 503, 504, 35]) = true := by decide +kernel
theorem gIL9_21 : gchkI 9 (330, 101, 1, myX1_darken, [512, 506, 507, 508, 35]) = true := by decide +kernel
theorem gIL9_22 : gchkI 9 (170, 101, 2, myX1_settle, [513, 514, 515, 516, 35]) = true := by decide +kernel
theorem gIL9_23 : gchkI 9 (159, 0, 1, myX9_isWave, [529, 530, 0, 531, 34]) = true := by decide +kernel
theorem gIL9_24 : gchkI 9 (166, 101, 1, myX1_shareBySixteen, [532, 533, 534, 535, 35]) = true := by decide +kernel
theorem gIL9_25 : gchkI 9 (187, 0, 2, myX9_brightOf, [552, 553, 0, 554, 34]) = true := by decide +kernel
theorem gIL9_26 : gchkI 9 (191, 0, 3, myX9_turnedRe, [559, 479, 0, 480, 34]) = true := by decide +kernel
theorem gIL9_27 : gchkI 9 (195, 0, 3, myX9_turnedIm, [560, 482, 0, 483, 34]) = true := by decide +kernel
theorem gIL9_28 : gchkI 9 (198, 0, 1, myX9_isPlate, [565, 566, 0, 567, 34]) = true := by decide +kernel
theorem gIL9_29 : gchkI 9 (202, 103, 4, myX3_keepFringes, [569, 570, 571, 572, 43]) = true := by decide +kernel
theorem gIL9_30 : gchkI 9 (206, 103, 1, myX3_whiteOnes, [581, 582, 583, 584, 43]) = true := by decide +kernel
theorem gIL9_31 : gchkI 9 (210, 103, 1, myX3_isMissing, [593, 594, 595, 596, 43]) = true := by decide +kernel
theorem gIL9_32 : gchkI 9 (217, 103, 2, myX3_weight, [605, 606, 607, 608, 43]) = true := by decide +kernel
theorem gIL9_33 : gchkI 9 (221, 109, 5, myX9_sendPart, [617, 619, 4, 620, 34]) = true := by decide +kernel
theorem gIL9_34 : gchkI 9 (225, 103, 1, myX3_lostOnes, [626, 627, 628, 629, 43]) = true := by decide +kernel
theorem gIL9_35 : gchkI 9 (228, 0, 1, myJ9_abs_067f4, [634, 518, 0, 519, 51]) = true := by decide +kernel
theorem gIL9_36 : gchkI 9 (234, 0, 1, myJ9_abs_0f7a4, [635, 636, 0, 637, 51]) = true := by decide +kernel
theorem gIL9_37 : gchkI 9 (236, 104, 5, myX4_pick, [642, 643, 644, 645, 38]) = true := by decide +kernel
theorem gIL9_38 : gchkI 9 (240, 104, 5, myX4_howMany, [672, 673, 674, 675, 38]) = true := by decide +kernel
theorem gIL9_39 : gchkI 9 (245, 103, 2, myX3_totalWithin, [681, 682, 683, 684, 43]) = true := by decide +kernel
theorem gIL9_40 : gchkI 9 (248, 103, 1, myX3_total, [685, 686, 687, 688, 43]) = true := by decide +kernel
theorem gIL9_41 : gchkI 9 (251, 102, 3, myX2_howManyReach, [691, 692, 693, 694, 39]) = true := by decide +kernel
theorem gIL9_42 : gchkI 9 (255, 0, 3, myX9_placesTurned, [709, 710, 0, 711, 34]) = true := by decide +kernel
theorem gIL9_43 : gchkI 9 (301, 0, 3, myX9_lean, [712, 489, 0, 490, 34]) = true := by decide +kernel
theorem gIL9_44 : gchkI 9 (259, 0, 1, myJ6_bitCount_0f7a4, [713, 650, 0, 651, 52]) = true := by decide +kernel
theorem gIL9_45 : gchkI 9 (264, 0, 1, myX9_square, [714, 715, 0, 716, 34]) = true := by decide +kernel
theorem gIL9_46 : gchkI 9 (267, 103, 1, myX3_kindTold, [721, 722, 723, 724, 43]) = true := by decide +kernel
theorem gIL9_47 : gchkI 9 (270, 103, 2, myX3_isOf, [731, 732, 733, 734, 43]) = true := by decide +kernel
theorem gIL9_48 : gchkI 9 (273, 100, 1, myX0_forget, [743, 744, 745, 746, 40]) = true := by decide +kernel
theorem gIL9_49 : gchkI 9 (276, 100, 3, myX0_sizeAsked, [747, 748, 749, 750, 40]) = true := by decide +kernel
theorem gIL9_50 : gchkI 9 (279, 100, 3, myX0_markAsked, [803, 774, 775, 776, 40]) = true := by decide +kernel
theorem gIL9_51 : gchkI 9 (288, 109, 1, myX9_sheetsThere, [812, 814, 5, 815, 34]) = true := by decide +kernel
theorem gIL9_52 : gchkI 9 (291, 109, 1, myX9_wavesLit, [816, 818, 6, 819, 34]) = true := by decide +kernel
theorem gIL9_53 : gchkI 9 (298, 108, 1, myX8_isLit, [820, 821, 822, 823, 42]) = true := by decide +kernel
theorem gIL9_54 : gchkI 9 (294, 109, 2, myX9_platesOf, [824, 826, 7, 827, 34]) = true := by decide +kernel
theorem gIL9_ok : ∀ e ∈ gIL9, gchkI 9 e = true := List.forall_mem_cons.mpr ⟨gIL9_0, List.forall_mem_cons.mpr ⟨gIL9_1, List.forall_mem_cons.mpr ⟨gIL9_2, List.forall_mem_cons.mpr ⟨gIL9_3, List.forall_mem_cons.mpr ⟨gIL9_4, List.forall_mem_cons.mpr ⟨gIL9_5, List.forall_mem_cons.mpr ⟨gIL9_6, List.forall_mem_cons.mpr ⟨gIL9_7, List.forall_mem_cons.mpr ⟨gIL9_8, List.forall_mem_cons.mpr ⟨gIL9_9, List.forall_mem_cons.mpr ⟨gIL9_10, List.forall_mem_cons.mpr ⟨gIL9_11, List.forall_mem_cons.mpr ⟨gIL9_12, List.forall_mem_cons.mpr ⟨gIL9_13, List.forall_mem_cons.mpr ⟨gIL9_14, List.forall_mem_cons.mpr ⟨gIL9_15, List.forall_mem_cons.mpr ⟨gIL9_16, List.forall_mem_cons.mpr ⟨gIL9_17, List.forall_mem_cons.mpr ⟨gIL9_18, List.forall_mem_cons.mpr ⟨gIL9_19, List.forall_mem_cons.mpr ⟨gIL9_20, List.forall_mem_cons.mpr ⟨gIL9_21, List.forall_mem_cons.mpr ⟨gIL9_22, List.forall_mem_cons.mpr ⟨gIL9_23, List.forall_mem_cons.mpr ⟨gIL9_24, List.forall_mem_cons.mpr ⟨gIL9_25, List.forall_mem_cons.mpr ⟨gIL9_26, List.forall_mem_cons.mpr ⟨gIL9_27, List.forall_mem_cons.mpr ⟨gIL9_28, List.forall_mem_cons.mpr ⟨gIL9_29, List.forall_mem_cons.mpr ⟨gIL9_30, List.forall_mem_cons.mpr ⟨gIL9_31, List.forall_mem_cons.mpr ⟨gIL9_32, List.forall_mem_cons.mpr ⟨gIL9_33, List.forall_mem_cons.mpr ⟨gIL9_34, List.forall_mem_cons.mpr ⟨gIL9_35, List.forall_mem_cons.mpr ⟨gIL9_36, List.forall_mem_cons.mpr ⟨gIL9_37, List.forall_mem_cons.mpr ⟨gIL9_38, List.forall_mem_cons.mpr ⟨gIL9_39, List.forall_mem_cons.mpr ⟨gIL9_40, List.forall_mem_cons.mpr ⟨gIL9_41, List.forall_mem_cons.mpr ⟨gIL9_42, List.forall_mem_cons.mpr ⟨gIL9_43, List.forall_mem_cons.mpr ⟨gIL9_44, List.forall_mem_cons.mpr ⟨gIL9_45, List.forall_mem_cons.mpr ⟨gIL9_46, List.forall_mem_cons.mpr ⟨gIL9_47, List.forall_mem_cons.mpr ⟨gIL9_48, List.forall_mem_cons.mpr ⟨gIL9_49, List.forall_mem_cons.mpr ⟨gIL9_50, List.forall_mem_cons.mpr ⟨gIL9_51, List.forall_mem_cons.mpr ⟨gIL9_52, List.forall_mem_cons.mpr ⟨gIL9_53, List.forall_mem_cons.mpr ⟨gIL9_54, fun _ h => absurd h List.not_mem_nil⟩⟩⟩⟩⟩⟩⟩⟩⟩⟩⟩⟩⟩⟩⟩⟩⟩⟩⟩⟩⟩⟩⟩⟩⟩⟩⟩⟩⟩⟩⟩⟩⟩⟩⟩⟩⟩⟩⟩⟩⟩⟩⟩⟩⟩⟩⟩⟩⟩⟩⟩⟩⟩⟩⟩
theorem gIL10_0 : gchkI 10 (58, 0, 1, myX10_isSheet, [918, 919, 0, 920, 44]) = true := by decide +kernel
theorem gIL10_1 : gchkI 10 (54, 0, 3, myX10_in, [922, 923, 0, 924, 44]) = true := by decide +kernel
theorem gIL10_2 : gchkI 10 (65, 110, 2, myX10_finding, [927, 929, 8, 930, 44]) = true := by decide +kernel
theorem gIL10_3 : gchkI 10 (82, 0, 1, myX10_isWave, [948, 949, 0, 950, 44]) = true := by decide +kernel
theorem gIL10_4 : gchkI 10 (85, 110, 3, myX10_goWay, [951, 953, 9, 954, 44]) = true := by decide +kernel
theorem gIL10_5 : gchkI 10 (75, 0, 3, myX10_turnedRe, [955, 956, 0, 957, 44]) = true := by decide +kernel
theorem gIL10_6 : gchkI 10 (79, 0, 3, myX10_turnedIm, [958, 959, 0, 960, 44]) = true := by decide +kernel
theorem gIL10_7 : gchkI 10 (92, 110, 2, myX10_isMade, [963, 965, 10, 966, 44]) = true := by decide +kernel
theorem gIL10_8 : gchkI 10 (96, 110, 4, myX10_lookItems, [974, 976, 11, 977, 44]) = true := by decide +kernel
theorem gIL10_9 : gchkI 10 (100, 0, 1, myX10_isPlace, [982, 983, 0, 984, 44]) = true := by decide +kernel
theorem gIL10_10 : gchkI 10 (106, 110, 3, myX10_brightOf, [992, 994, 12, 995, 44]) = true := by decide +kernel
theorem gIL10_11 : gchkI 10 (196, 110, 1, myX10_readAll, [1010, 1012, 13, 1013, 44]) = true := by decide +kernel
theorem gIL10_12 : gchkI 10 (151, 110, 1, myX10_step, [1014, 1016, 14, 1017, 44]) = true := by decide +kernel
theorem gIL10_13 : gchkI 10 (123, 110, 2, myX10_byteAt, [1018, 1020, 15, 1021, 44]) = true := by decide +kernel
theorem gIL10_14 : gchkI 10 (132, 0, 1, myX10_isLetter, [1022, 1023, 0, 1024, 44]) = true := by decide +kernel
theorem gIL10_15 : gchkI 10 (135, 0, 1, myX10_isFigure, [1025, 1026, 0, 1027, 44]) = true := by decide +kernel
theorem gIL10_16 : gchkI 10 (193, 110, 1, myX10_readAct, [1028, 1030, 16, 1031, 44]) = true := by decide +kernel
theorem gIL10_17 : gchkI 10 (176, 110, 1, myX10_word, [1032, 1034, 17, 1035, 44]) = true := by decide +kernel
theorem gIL10_18 : gchkI 10 (154, 110, 2, myX10_must, [1043, 1045, 18, 1046, 44]) = true := by decide +kernel
theorem gIL10_19 : gchkI 10 (147, 110, 2, myX10_bad, [1047, 1049, 19, 1050, 44]) = true := by decide +kernel
theorem gIL10_20 : gchkI 10 (182, 110, 2, myX10_numberTo, [1051, 1053, 20, 1054, 44]) = true := by decide +kernel
theorem gIL10_21 : gchkI 10 (189, 110, 7, myX10_act, [1055, 1057, 21, 1058, 44]) = true := by decide +kernel
theorem gIL10_22 : gchkI 10 (158, 110, 2, myX10_asItIs, [1059, 1061, 22, 1062, 44]) = true := by decide +kernel
theorem gIL10_23 : gchkI 10 (205, 0, 1, myX10_isPlate, [1072, 1073, 0, 1074, 44]) = true := by decide +kernel
theorem gIL10_24 : gchkI 10 (210, 110, 2, myX10_lookAt, [1081, 1083, 23, 1084, 44]) = true := by decide +kernel
theorem gIL10_25 : gchkI 10 (213, 0, 1, myX10_told, [1085, 1086, 0, 1087, 44]) = true := by decide +kernel
theorem gIL10_26 : gchkI 10 (216, 110, 3, myX10_sends, [1096, 1098, 24, 1099, 44]) = true := by decide +kernel
theorem gIL10_27 : gchkI 10 (221, 110, 2, myX10_lostOn, [1109, 1111, 25, 1112, 44]) = true := by decide +kernel
theorem gIL10_28 : gchkI 10 (224, 0, 1, myX10_length, [1117, 1118, 0, 1119, 44]) = true := by decide +kernel
theorem gIL10_29 : gchkI 10 (228, 110, 4, myX10_isFit, [1124, 1126, 26, 1127, 44]) = true := by decide +kernel
theorem gIL10_30 : gchkI 10 (234, 110, 3, myX10_sumOf, [1133, 1135, 27, 1136, 44]) = true := by decide +kernel
theorem gIL10_31 : gchkI 10 (239, 110, 2, myX10_kindOf, [1146, 1148, 28, 1149, 44]) = true := by decide +kernel
theorem gIL10_32 : gchkI 10 (244, 0, 2, myX10_isOf, [1155, 1156, 0, 1157, 44]) = true := by decide +kernel
theorem gIL10_33 : gchkI 10 (257, 110, 3, myX10_markOf, [1162, 1164, 29, 1165, 44]) = true := by decide +kernel
theorem gIL10_34 : gchkI 10 (251, 110, 2, myX10_began, [1166, 1168, 30, 1169, 44]) = true := by decide +kernel
theorem gIL10_35 : gchkI 10 (254, 110, 3, myX10_clearSize, [1170, 1172, 31, 1173, 44]) = true := by decide +kernel
theorem gIL10_36 : gchkI 10 (260, 110, 3, myX10_tornSize, [1174, 1176, 32, 1177, 44]) = true := by decide +kernel
theorem gIL10_ok : ∀ e ∈ gIL10, gchkI 10 e = true := List.forall_mem_cons.mpr ⟨gIL10_0, List.forall_mem_cons.mpr ⟨gIL10_1, List.forall_mem_cons.mpr ⟨gIL10_2, List.forall_mem_cons.mpr ⟨gIL10_3, List.forall_mem_cons.mpr ⟨gIL10_4, List.forall_mem_cons.mpr ⟨gIL10_5, List.forall_mem_cons.mpr ⟨gIL10_6, List.forall_mem_cons.mpr ⟨gIL10_7, List.forall_mem_cons.mpr ⟨gIL10_8, List.forall_mem_cons.mpr ⟨gIL10_9, List.forall_mem_cons.mpr ⟨gIL10_10, List.forall_mem_cons.mpr ⟨gIL10_11, List.forall_mem_cons.mpr ⟨gIL10_12, List.forall_mem_cons.mpr ⟨gIL10_13, List.forall_mem_cons.mpr ⟨gIL10_14, List.forall_mem_cons.mpr ⟨gIL10_15, List.forall_mem_cons.mpr ⟨gIL10_16, List.forall_mem_cons.mpr ⟨gIL10_17, List.forall_mem_cons.mpr ⟨gIL10_18, List.forall_mem_cons.mpr ⟨gIL10_19, List.forall_mem_cons.mpr ⟨gIL10_20, List.forall_mem_cons.mpr ⟨gIL10_21, List.forall_mem_cons.mpr ⟨gIL10_22, List.forall_mem_cons.mpr ⟨gIL10_23, List.forall_mem_cons.mpr ⟨gIL10_24, List.forall_mem_cons.mpr ⟨gIL10_25, List.forall_mem_cons.mpr ⟨gIL10_26, List.forall_mem_cons.mpr ⟨gIL10_27, List.forall_mem_cons.mpr ⟨gIL10_28, List.forall_mem_cons.mpr ⟨gIL10_29, List.forall_mem_cons.mpr ⟨gIL10_30, List.forall_mem_cons.mpr ⟨gIL10_31, List.forall_mem_cons.mpr ⟨gIL10_32, List.forall_mem_cons.mpr ⟨gIL10_33, List.forall_mem_cons.mpr ⟨gIL10_34, List.forall_mem_cons.mpr ⟨gIL10_35, List.forall_mem_cons.mpr ⟨gIL10_36, fun _ h => absurd h List.not_mem_nil⟩⟩⟩⟩⟩⟩⟩⟩⟩⟩⟩⟩⟩⟩⟩⟩⟩⟩⟩⟩⟩⟩⟩⟩⟩⟩⟩⟩⟩⟩⟩⟩⟩⟩⟩⟩⟩
theorem gIL11_0 : gchkI 11 (13, 109, 4, myX9_sheet, [268, 269, 270, 271, 34]) = true := by decide +kernel
theorem gIL11_1 : gchkI 11 (18, 109, 4, myX9_set, [295, 296, 297, 298, 34]) = true := by decide +kernel
theorem gIL11_2 : gchkI 11 (22, 109, 6, myX9_copy, [311, 312, 313, 314, 34]) = true := by decide +kernel
theorem gIL11_3 : gchkI 11 (27, 109, 2, myX9_drop, [318, 319, 320, 321, 34]) = true := by decide +kernel
theorem gIL11_4 : gchkI 11 (34, 109, 3, myX9_feed, [326, 327, 328, 329, 34]) = true := by decide +kernel
theorem gIL11_5 : gchkI 11 (39, 109, 1, myX9_run, [335, 336, 337, 338, 34]) = true := by decide +kernel
theorem gIL11_6 : gchkI 11 (44, 109, 1, myX9_fault, [521, 522, 523, 524, 34]) = true := by decide +kernel
theorem gIL11_7 : gchkI 11 (48, 109, 3, myX9_way, [525, 526, 527, 528, 34]) = true := by decide +kernel
theorem gIL11_8 : gchkI 11 (53, 109, 4, myX9_lay, [538, 539, 540, 541, 34]) = true := by decide +kernel
theorem gIL11_9 : gchkI 11 (57, 109, 4, myX9_part, [542, 543, 544, 545, 34]) = true := by decide +kernel
theorem gIL11_10 : gchkI 11 (61, 109, 3, myX9_bright, [546, 547, 548, 549, 34]) = true := by decide +kernel
theorem gIL11_11 : gchkI 11 (66, 109, 4, myX9_moved, [555, 556, 557, 558, 34]) = true := by decide +kernel
theorem gIL11_12 : gchkI 11 (70, 109, 5, myX9_take, [561, 562, 563, 564, 34]) = true := by decide +kernel
theorem gIL11_13 : gchkI 11 (75, 109, 3, myX9_lose, [589, 590, 591, 592, 34]) = true := by decide +kernel
theorem gIL11_14 : gchkI 11 (79, 109, 3, myX9_grain, [597, 598, 599, 600, 34]) = true := by decide +kernel
theorem gIL11_15 : gchkI 11 (83, 109, 4, myX9_read, [601, 602, 603, 604, 34]) = true := by decide +kernel
theorem gIL11_16 : gchkI 11 (87, 109, 5, myX9_parts, [613, 614, 615, 616, 34]) = true := by decide +kernel
theorem gIL11_17 : gchkI 11 (91, 109, 3, myX9_off, [622, 623, 624, 625, 34]) = true := by decide +kernel
theorem gIL11_18 : gchkI 11 (95, 109, 4, myX9_lack, [630, 631, 632, 633, 34]) = true := by decide +kernel
theorem gIL11_19 : gchkI 11 (100, 109, 5, myX9_fits, [638, 639, 640, 641, 34]) = true := by decide +kernel
theorem gIL11_20 : gchkI 11 (104, 109, 4, myX9_mark, [676, 677, 678, 679, 34]) = true := by decide +kernel
theorem gIL11_21 : gchkI 11 (108, 109, 6, myX9_aim, [705, 706, 707, 708, 34]) = true := by decide +kernel
theorem gIL11_22 : gchkI 11 (112, 109, 2, myX9_kind, [717, 718, 719, 720, 34]) = true := by decide +kernel
theorem gIL11_23 : gchkI 11 (116, 109, 3, myX9_as, [727, 728, 729, 730, 34]) = true := by decide +kernel
theorem gIL11_24 : gchkI 11 (120, 109, 3, myX9_ask, [739, 740, 741, 742, 34]) = true := by decide +kernel
theorem gIL11_25 : gchkI 11 (124, 109, 2, myX9_trace, [804, 805, 806, 807, 34]) = true := by decide +kernel
theorem gIL11_26 : gchkI 11 (128, 109, 2, myX9_count, [808, 809, 810, 811, 34]) = true := by decide +kernel
theorem gIL11_27 : gchkI 11 (132, 109, 1, myX9_status, [828, 829, 830, 831, 34]) = true := by decide +kernel
theorem gIL11_28 : gchkI 11 (17, 110, 4, myX10_sheet, [914, 915, 916, 917, 44]) = true := by decide +kernel
theorem gIL11_29 : gchkI 11 (21, 110, 4, myX10_set, [932, 933, 934, 935, 44]) = true := by decide +kernel
theorem gIL11_30 : gchkI 11 (26, 110, 6, myX10_copy, [936, 937, 938, 939, 44]) = true := by decide +kernel
theorem gIL11_31 : gchkI 11 (31, 110, 2, myX10_drop, [940, 941, 942, 943, 44]) = true := by decide +kernel
theorem gIL11_32 : gchkI 11 (52, 110, 3, myX10_way, [944, 945, 946, 947, 44]) = true := by decide +kernel
theorem gIL11_33 : gchkI 11 (56, 110, 4, myX10_lay, [970, 971, 972, 973, 44]) = true := by decide +kernel
theorem gIL11_34 : gchkI 11 (60, 110, 4, myX10_part, [978, 979, 980, 981, 44]) = true := by decide +kernel
theorem gIL11_35 : gchkI 11 (65, 110, 3, myX10_bright, [986, 987, 988, 989, 44]) = true := by decide +kernel
theorem gIL11_36 : gchkI 11 (69, 110, 4, myX10_moved, [996, 997, 998, 999, 44]) = true := by decide +kernel
theorem gIL11_37 : gchkI 11 (38, 110, 3, myX10_feed, [1000, 1001, 1002, 1003, 44]) = true := by decide +kernel
theorem gIL11_38 : gchkI 11 (43, 110, 1, myX10_run, [1006, 1007, 1008, 1009, 44]) = true := by decide +kernel
theorem gIL11_39 : gchkI 11 (47, 110, 1, myX10_fault, [1064, 1065, 1066, 1067, 44]) = true := by decide +kernel
theorem gIL11_40 : gchkI 11 (74, 110, 5, myX10_take, [1068, 1069, 1070, 1071, 44]) = true := by decide +kernel
theorem gIL11_41 : gchkI 11 (78, 110, 3, myX10_lose, [1077, 1078, 1079, 1080, 44]) = true := by decide +kernel
theorem gIL11_42 : gchkI 11 (82, 110, 3, myX10_grain, [1088, 1089, 1090, 1091, 44]) = true := by decide +kernel
theorem gIL11_43 : gchkI 11 (86, 110, 4, myX10_read, [1092, 1093, 1094, 1095, 44]) = true := by decide +kernel
theorem gIL11_44 : gchkI 11 (90, 110, 5, myX10_parts, [1100, 1101, 1102, 1103, 44]) = true := by decide +kernel
theorem gIL11_45 : gchkI 11 (94, 110, 3, myX10_off, [1105, 1106, 1107, 1108, 44]) = true := by decide +kernel
theorem gIL11_46 : gchkI 11 (99, 110, 4, myX10_lack, [1113, 1114, 1115, 1116, 44]) = true := by decide +kernel
theorem gIL11_47 : gchkI 11 (103, 110, 5, myX10_fits, [1120, 1121, 1122, 1123, 44]) = true := by decide +kernel
theorem gIL11_48 : gchkI 11 (107, 110, 4, myX10_mark, [1128, 1129, 1130, 1131, 44]) = true := by decide +kernel
theorem gIL11_49 : gchkI 11 (111, 110, 6, myX10_aim, [1138, 1139, 1140, 1141, 44]) = true := by decide +kernel
theorem gIL11_50 : gchkI 11 (115, 110, 2, myX10_kind, [1142, 1143, 1144, 1145, 44]) = true := by decide +kernel
theorem gIL11_51 : gchkI 11 (119, 110, 3, myX10_as, [1150, 1151, 1152, 1153, 44]) = true := by decide +kernel
theorem gIL11_52 : gchkI 11 (123, 110, 3, myX10_ask, [1158, 1159, 1160, 1161, 44]) = true := by decide +kernel
theorem gIL11_53 : gchkI 11 (127, 110, 2, myX10_trace, [1178, 1179, 1180, 1181, 44]) = true := by decide +kernel
theorem gIL11_54 : gchkI 11 (131, 110, 2, myX10_count, [1182, 1183, 1184, 1185, 44]) = true := by decide +kernel
theorem gIL11_55 : gchkI 11 (135, 110, 1, myX10_status, [1186, 1187, 1188, 1189, 44]) = true := by decide +kernel
theorem gIL11_ok : ∀ e ∈ gIL11, gchkI 11 e = true := List.forall_mem_cons.mpr ⟨gIL11_0, List.forall_mem_cons.mpr ⟨gIL11_1, List.forall_mem_cons.mpr ⟨gIL11_2, List.forall_mem_cons.mpr ⟨gIL11_3, List.forall_mem_cons.mpr ⟨gIL11_4, List.forall_mem_cons.mpr ⟨gIL11_5, List.forall_mem_cons.mpr ⟨gIL11_6, List.forall_mem_cons.mpr ⟨gIL11_7, List.forall_mem_cons.mpr ⟨gIL11_8, List.forall_mem_cons.mpr ⟨gIL11_9, List.forall_mem_cons.mpr ⟨gIL11_10, List.forall_mem_cons.mpr ⟨gIL11_11, List.forall_mem_cons.mpr ⟨gIL11_12, List.forall_mem_cons.mpr ⟨gIL11_13, List.forall_mem_cons.mpr ⟨gIL11_14, List.forall_mem_cons.mpr ⟨gIL11_15, List.forall_mem_cons.mpr ⟨gIL11_16, List.forall_mem_cons.mpr ⟨gIL11_17, List.forall_mem_cons.mpr ⟨gIL11_18, List.forall_mem_cons.mpr ⟨gIL11_19, List.forall_mem_cons.mpr ⟨gIL11_20, List.forall_mem_cons.mpr ⟨gIL11_21, List.forall_mem_cons.mpr ⟨gIL11_22, List.forall_mem_cons.mpr ⟨gIL11_23, List.forall_mem_cons.mpr ⟨gIL11_24, List.forall_mem_cons.mpr ⟨gIL11_25, List.forall_mem_cons.mpr ⟨gIL11_26, List.forall_mem_cons.mpr ⟨gIL11_27, List.forall_mem_cons.mpr ⟨gIL11_28, List.forall_mem_cons.mpr ⟨gIL11_29, List.forall_mem_cons.mpr ⟨gIL11_30, List.forall_mem_cons.mpr ⟨gIL11_31, List.forall_mem_cons.mpr ⟨gIL11_32, List.forall_mem_cons.mpr ⟨gIL11_33, List.forall_mem_cons.mpr ⟨gIL11_34, List.forall_mem_cons.mpr ⟨gIL11_35, List.forall_mem_cons.mpr ⟨gIL11_36, List.forall_mem_cons.mpr ⟨gIL11_37, List.forall_mem_cons.mpr ⟨gIL11_38, List.forall_mem_cons.mpr ⟨gIL11_39, List.forall_mem_cons.mpr ⟨gIL11_40, List.forall_mem_cons.mpr ⟨gIL11_41, List.forall_mem_cons.mpr ⟨gIL11_42, List.forall_mem_cons.mpr ⟨gIL11_43, List.forall_mem_cons.mpr ⟨gIL11_44, List.forall_mem_cons.mpr ⟨gIL11_45, List.forall_mem_cons.mpr ⟨gIL11_46, List.forall_mem_cons.mpr ⟨gIL11_47, List.forall_mem_cons.mpr ⟨gIL11_48, List.forall_mem_cons.mpr ⟨gIL11_49, List.forall_mem_cons.mpr ⟨gIL11_50, List.forall_mem_cons.mpr ⟨gIL11_51, List.forall_mem_cons.mpr ⟨gIL11_52, List.forall_mem_cons.mpr ⟨gIL11_53, List.forall_mem_cons.mpr ⟨gIL11_54, List.forall_mem_cons.mpr ⟨gIL11_55, fun _ h => absurd h List.not_mem_nil⟩⟩⟩⟩⟩⟩⟩⟩⟩⟩⟩⟩⟩⟩⟩⟩⟩⟩⟩⟩⟩⟩⟩⟩⟩⟩⟩⟩⟩⟩⟩⟩⟩⟩⟩⟩⟩⟩⟩⟩⟩⟩⟩⟩⟩⟩⟩⟩⟩⟩⟩⟩⟩⟩⟩⟩
theorem gIL12_ok : ∀ e ∈ gIL12, gchkI 12 e = true := fun _ h => absurd h List.not_mem_nil
theorem gIL13_ok : ∀ e ∈ gIL13, gchkI 13 e = true := fun _ h => absurd h List.not_mem_nil
theorem gIL14_0 : gchkI 14 (335, 114, 1, myJ0_coder_7d493, [392, 393, 394, 395, 47]) = true := by decide +kernel
theorem gIL14_1 : gchkI 14 (492, 114, 1, myJ0_isLatin1_aae02, [402, 403, 404, 405, 47]) = true := by decide +kernel
theorem gIL14_2 : gchkI 14 (495, 0, 2, myJ1_charAt_3b067, [406, 407, 0, 408, 48]) = true := by decide +kernel
theorem gIL14_3 : gchkI 14 (1059, 0, 3, myJ3_checkIndex_8e157, [414, 415, 0, 416, 49]) = true := by decide +kernel
theorem gIL14_4 : gchkI 14 (498, 0, 2, myJ2_charAt_3b067, [417, 418, 0, 419, 50]) = true := by decide +kernel
theorem gIL14_ok : ∀ e ∈ gIL14, gchkI 14 e = true := List.forall_mem_cons.mpr ⟨gIL14_0, List.forall_mem_cons.mpr ⟨gIL14_1, List.forall_mem_cons.mpr ⟨gIL14_2, List.forall_mem_cons.mpr ⟨gIL14_3, List.forall_mem_cons.mpr ⟨gIL14_4, fun _ h => absurd h List.not_mem_nil⟩⟩⟩⟩⟩
theorem gIL15_0 : gchkI 15 (9, 0, 2, myJ0_checkIndex_df160, [409, 410, 0, 411, 47]) = true := by decide +kernel
theorem gIL15_ok : ∀ e ∈ gIL15, gchkI 15 e = true := List.forall_mem_cons.mpr ⟨gIL15_0, fun _ h => absurd h List.not_mem_nil⟩
theorem gIL16_0 : gchkI 16 (67, 0, 2, myJ2_checkIndex_2214a, [420, 421, 0, 422, 50]) = true := by decide +kernel
theorem gIL16_1 : gchkI 16 (48, 0, 1, myJ2_length_9d52b, [423, 424, 0, 425, 50]) = true := by decide +kernel
theorem gIL16_2 : gchkI 16 (414, 0, 2, myJ0_checkIndex_df160, [426, 410, 0, 411, 47]) = true := by decide +kernel
theorem gIL16_3 : gchkI 16 (71, 0, 2, myJ2_getChar_3b067, [427, 428, 0, 429, 50]) = true := by decide +kernel
theorem gIL16_ok : ∀ e ∈ gIL16, gchkI 16 e = true := List.forall_mem_cons.mpr ⟨gIL16_0, List.forall_mem_cons.mpr ⟨gIL16_1, List.forall_mem_cons.mpr ⟨gIL16_2, List.forall_mem_cons.mpr ⟨gIL16_3, fun _ h => absurd h List.not_mem_nil⟩⟩⟩⟩
theorem gIL17_ok : ∀ e ∈ gIL17, gchkI 17 e = true := fun _ h => absurd h List.not_mem_nil
theorem gIL18_ok : ∀ e ∈ gIL18, gchkI 18 e = true := fun _ h => absurd h List.not_mem_nil
theorem gIL19_ok : ∀ e ∈ gIL19, gchkI 19 e = true := fun _ h => absurd h List.not_mem_nil
theorem gIL_ok : ∀ (o : Nat), ∀ e ∈ gIL o, gchkI o e = true
  | 0 => gIL0_ok
  | 1 => gIL1_ok
  | 2 => gIL2_ok
  | 3 => gIL3_ok
  | 4 => gIL4_ok
  | 5 => gIL5_ok
  | 6 => gIL6_ok
  | 7 => gIL7_ok
  | 8 => gIL8_ok
  | 9 => gIL9_ok
  | 10 => gIL10_ok
  | 11 => gIL11_ok
  | 12 => gIL12_ok
  | 13 => gIL13_ok
  | 14 => gIL14_ok
  | 15 => gIL15_ok
  | 16 => gIL16_ok
  | 17 => gIL17_ok
  | 18 => gIL18_ok
  | 19 => gIL19_ok
  | _ + 20 => fun _ h => absurd h List.not_mem_nil
set_option maxRecDepth 100000 in
theorem gSL_ok : gSL.all (fun e => gin e.2.2.2 (.fieldLink (gcn e.1) e.2.1 (gcn e.1) (gSN e.2.2.1) "[I") && decide (40 ≤ e.2.2.1 ∧ e.2.2.1 < 47)) = true := by decide +kernel
set_option maxRecDepth 100000 in
theorem gACL_ok : gACL.all (fun e => gin e.2.2 (.methodLink (gcn e.1) e.2.1 arraycopyName)) = true := by decide +kernel
theorem gsys_ok : (gin gP_native (.native arraycopyName) && gin gP_acs (.static arraycopyName) && gin gP_sys (.initialized "java/lang/System")) = true := by decide +kernel
theorem gstr_ok : (gin gP_value (.fieldLink (gcn 14) gX_value "java/lang/String" "value" "[B") && gin gP_coder (.fieldLink (gcn 14) gX_coder "java/lang/String" "coder" "B") && gin gP_COMPACT_STRINGS (.fieldLink (gcn 14) gX_COMPACT_STRINGS "java/lang/String" "COMPACT_STRINGS" "Z") && gin gP_SIOOBE_FORMATTER (.fieldLink (gcn 14) gX_SIOOBE_FORMATTER "jdk/internal/util/Preconditions" "SIOOBE_FORMATTER" "Ljava/util/function/BiFunction;")) = true := by decide +kernel
theorem gSRL_ok : gSRL.all (fun e => decide (e.1 = 5) && decide (e.2.2 < 7)) = true := by decide +kernel
/-- what is known of a class -/
def gClk (ci : Nat) (C : String) (T : u_T) (N : Nat) (ty0 : Nat → FieldType) : Prop := gCl[ci]? = some (C, T, N) ∧ C = gcn ci ∧ (∀ w ∈ u_ws C T N, w ∈ gWs) ∧ (∀ k, k < N → parseFieldDescriptor (T k).2.2.1 = some (ty0 k)) ∧ (∀ a, a < N → ∀ b, b < N → a ≠ b → (T a).2.1 ≠ (T b).2.1) ∧ (gF ci).length = N ∧ (gFin ci).length = N ∧ gA ci = none ∧ ∀ j, j < N → ((gF ci).getD j 0 = 0 → ty0 j = .int) ∧ ((gF ci).getD j 0 = 1 → ty0 j = .boolean) ∧ (gFin ci).getD j true = (T j).2.2.2
set_option maxRecDepth 100000 in
theorem gclk0 : gClk 0 RX0 TX0 2 tyX0 := ⟨rfl, rfl, by decide +kernel, tyX0_ok, nmX0, rfl, rfl, rfl, by decide +kernel⟩
set_option maxRecDepth 100000 in
theorem gclk1 : gClk 1 RX1 TX1 2 tyX1 := ⟨rfl, rfl, by decide +kernel, tyX1_ok, nmX1, rfl, rfl, rfl, by decide +kernel⟩
set_option maxRecDepth 100000 in
theorem gclk2 : gClk 2 RX2 TX2 3 tyX2 := ⟨rfl, rfl, by decide +kernel, tyX2_ok, nmX2, rfl, rfl, rfl, by decide +kernel⟩
set_option maxRecDepth 100000 in
theorem gclk3 : gClk 3 RX3 TX3 2 tyX3 := ⟨rfl, rfl, by decide +kernel, tyX3_ok, nmX3, rfl, rfl, rfl, by decide +kernel⟩
set_option maxRecDepth 100000 in
theorem gclk4 : gClk 4 RX4 TX4 2 tyX4 := ⟨rfl, rfl, by decide +kernel, tyX4_ok, nmX4, rfl, rfl, rfl, by decide +kernel⟩
set_option maxRecDepth 100000 in
theorem gclk5 : gClk 5 RX5 TX5 5 tyX5 := ⟨rfl, rfl, by decide +kernel, tyX5_ok, nmX5, rfl, rfl, rfl, by decide +kernel⟩
set_option maxRecDepth 100000 in
theorem gclk6 : gClk 6 RX6 TX6 3 tyX6 := ⟨rfl, rfl, by decide +kernel, tyX6_ok, nmX6, rfl, rfl, rfl, by decide +kernel⟩
set_option maxRecDepth 100000 in
theorem gclk7 : gClk 7 RX7 TX7 6 tyX7 := ⟨rfl, rfl, by decide +kernel, tyX7_ok, nmX7, rfl, rfl, rfl, by decide +kernel⟩
set_option maxRecDepth 100000 in
theorem gclk8 : gClk 8 RX8 TX8 2 tyX8 := ⟨rfl, rfl, by decide +kernel, tyX8_ok, nmX8, rfl, rfl, rfl, by decide +kernel⟩
set_option maxRecDepth 100000 in
theorem gclk9 : gClk 9 RX9 TX9 11 tyX9 := ⟨rfl, rfl, by decide +kernel, tyX9_ok, nmX9, rfl, rfl, rfl, by decide +kernel⟩
set_option maxRecDepth 100000 in
theorem gclk10 : gClk 10 RX10 TX10 25 tyX10 := ⟨rfl, rfl, by decide +kernel, tyX10_ok, nmX10, rfl, rfl, rfl, by decide +kernel⟩
theorem gclk (ci : Nat) (h : ci < 11) : ∃ (C : String) (T : u_T) (N : Nat) (ty0 : Nat → FieldType), gClk ci C T N ty0 := match ci, h with
  | 0, _ => ⟨_, _, _, _, gclk0⟩
  | 1, _ => ⟨_, _, _, _, gclk1⟩
  | 2, _ => ⟨_, _, _, _, gclk2⟩
  | 3, _ => ⟨_, _, _, _, gclk3⟩
  | 4, _ => ⟨_, _, _, _, gclk4⟩
  | 5, _ => ⟨_, _, _, _, gclk5⟩
  | 6, _ => ⟨_, _, _, _, gclk6⟩
  | 7, _ => ⟨_, _, _, _, gclk7⟩
  | 8, _ => ⟨_, _, _, _, gclk8⟩
  | 9, _ => ⟨_, _, _, _, gclk9⟩
  | 10, _ => ⟨_, _, _, _, gclk10⟩
  | n + 11, h => absurd h (by omega)
end
section
/-! THE ABSTRACT MACHINE: what an instruction asks (a predicate transformer), over numbers, cells by family and place, and a store -/
abbrev gG : Type := (Nat → Nat → Nat) × (Nat → ClassId) × va_G × Value
/-- one place of the store -/
def gsu (σ : gT) (f i j : Nat) (x : Int32) : gT := (fun a b c => if a = f ∧ b = i ∧ c = j then x else σ.1 a b c, σ.2)
def gsl (σ : gT) (f i j : Nat) (x : Int64) : gT := (σ.1, fun a b c => if a = f ∧ b = i ∧ c = j then x else σ.2 a b c)
/-- a row copied: n ints from place sp of the row (f, i) to place dp of the row (g, k) -/
def gsc (σ : gT) (f i sp g k dp n : Nat) : gT := (fun a b c => if a = g ∧ b = k ∧ dp ≤ c ∧ c < dp + n then σ.1 f i (sp + (c - dp)) else σ.1 a b c, σ.2)
def gcat : gAV → Nat
  | .inr (.inl _) => 2
  | _ => 1
def gcats : gSk → Nat
  | [] => 0
  | v :: r => gcat v + gcats r
/-- the long whose second half stands at i goes -/
def gkl (L : gLo) (i : Nat) : gLo := match i with
  | 0 => L
  | j + 1 => match L[j]? with
    | some (some (.inr (.inl _))) => L.set j none
    | _ => L
/-- the locals behind a store -/
def gst (L : gLo) (i : Nat) (v : gAV) : gLo :=
  match v with
  | .inr (.inl _) => ((gkl L i).set i (some v)).set (i + 1) none
  | _ => (gkl L i).set i (some v)
/-- a method's locals at its entry -/
def gen1 : List gAV → gLo
  | [] => []
  | .inr (.inl y) :: r => some (.inr (.inl y)) :: none :: gen1 r
  | v :: r => some v :: gen1 r
def gen (n : Nat) (vs : List gAV) : gLo := gen1 vs ++ List.replicate (n - (gen1 vs).length) none
def gci (n : Int) : Int32 := match n with
  | .ofNat k => Int32.ofNat k
  | .negSucc k => -(Int32.ofNat (k + 1))
def gtg (pc : Nat) (off : Int) : Nat := ((pc : Int) + off).toNat
-- shapes of the stack
def p_i (st : gSk) (k : Int32 → gSk → Prop) : Prop := match st with
  | .inl a :: r => k a r
  | _ => False
def p_l (st : gSk) (k : Int64 → gSk → Prop) : Prop := match st with
  | .inr (.inl a) :: r => k a r
  | _ => False
def p_r (st : gSk) (k : Nat → Nat → gSk → Prop) : Prop := match st with
  | .inr (.inr (f, i)) :: r => k f i r
  | _ => False
def p_ii (st : gSk) (k : Int32 → Int32 → gSk → Prop) : Prop := match st with
  | .inl b :: .inl a :: r => k a b r
  | _ => False
def p_ll (st : gSk) (k : Int64 → Int64 → gSk → Prop) : Prop := match st with
  | .inr (.inl b) :: .inr (.inl a) :: r => k a b r
  | _ => False
def p_li (st : gSk) (k : Int64 → Int32 → gSk → Prop) : Prop := match st with
  | .inl b :: .inr (.inl a) :: r => k a b r
  | _ => False
def p_ri (st : gSk) (k : Nat → Nat → Int32 → gSk → Prop) : Prop := match st with
  | .inl j :: .inr (.inr (f, i)) :: r => k f i j r
  | _ => False
def p_rii (st : gSk) (k : Nat → Nat → Int32 → Int32 → gSk → Prop) : Prop := match st with
  | .inl x :: .inl j :: .inr (.inr (f, i)) :: r => k f i j x r
  | _ => False
def p_ril (st : gSk) (k : Nat → Nat → Int32 → Int64 → gSk → Prop) : Prop := match st with
  | .inr (.inl x) :: .inl j :: .inr (.inr (f, i)) :: r => k f i j x r
  | _ => False
def p_v (st : gSk) (k : gAV → gSk → Prop) : Prop := match st with
  | v :: r => k v r
  | [] => False
def p_lo (L : gLo) (i : Nat) (k : gAV → Prop) : Prop := match L[i]? with
  | some (some v) => k v
  | _ => False
def p_lI (v : gAV) (k : Int32 → Prop) : Prop := match v with
  | .inl x => k x
  | _ => False
def p_lL (v : gAV) (k : Int64 → Prop) : Prop := match v with
  | .inr (.inl x) => k x
  | _ => False
def p_lR (v : gAV) (k : Nat → Nat → Prop) : Prop := match v with
  | .inr (.inr (f, i)) => k f i
  | _ => False
def gcmp (c : ClassFile.Cond) (a b : Int32) (kt kf : Prop) : Prop := match c with
  | .eq => (a = b → kt) ∧ (¬ a = b → kf)
  | .ne => (¬ a = b → kt) ∧ (a = b → kf)
  | .lt => (a < b → kt) ∧ (¬ a < b → kf)
  | .ge => (b ≤ a → kt) ∧ (¬ b ≤ a → kf)
  | .gt => (b < a → kt) ∧ (¬ b < a → kf)
  | .le => (a ≤ b → kt) ∧ (¬ a ≤ b → kf)
def gif (c : ClassFile.Cond) (a : Int32) (kt kf : Prop) : Prop := match c with
  | .eq => (a = 0 → kt) ∧ (¬ a = 0 → kf)
  | .ne => (¬ a = 0 → kt) ∧ (a = 0 → kf)
  | .lt => (a < 0 → kt) ∧ (¬ a < 0 → kf)
  | .ge => (0 ≤ a → kt) ∧ (¬ 0 ≤ a → kf)
  | .gt => (0 < a → kt) ∧ (¬ 0 < a → kf)
  | .le => (a ≤ 0 → kt) ∧ (¬ a ≤ 0 → kf)
/-- the cases of a switch by its table -/
def gsw (x lo : Int) (k : Int → Prop) : List Int → Prop
  | [] => True
  | off :: r => (x = lo → k off) ∧ gsw x (lo + 1) k r
def glk (x : Int) (d : Int) (k : Int → Prop) : List (Int × Int) → Prop
  | [] => k d
  | q :: r => (x = q.1 → k q.2) ∧ (¬ x = q.1 → glk x d k r)
def gfl (o idx : Nat) : Option (Nat × Nat × Nat × Nat) := (gFL o).find? (fun e => e.1 == idx)
def gcs (o idx : Nat) : Option (Nat × gAV × Nat) := (gCL o).find? (fun e => e.1 == idx)
def giv (o idx : Nat) : Option (Nat × Nat × Nat × gMY × List Nat) := (gIL o).find? (fun e => e.1 == idx)
def gss (o idx : Nat) : Option (Nat × Nat × Nat × Nat) := gSL.find? (fun e => e.1 == o && e.2.1 == idx)
/-- a field read -/
def ggf (o idx f i : Nat) (σ : gT) (k : gAV → Prop) : Prop := match gfl o idx with
  | some (_, ci, j, _) => if f = ci then (match (gF ci)[j]? with
    | some 0 => k (.inl (σ.1 f i j))
    | some 1 => k (.inl (σ.1 f i j))
    | some (g + 2) => k (.inr (.inr (g, i)))
    | none => False) else False
  | none => (match o with
    | 14 => if f = 50 then (if idx = gX_value then k (.inr (.inr (51, i))) else if idx = gX_coder then k (.inl 0) else False) else False
    | _ => False)
def gpf (o idx f i : Nat) (σ : gT) (x : Int32) (k : gT → Prop) : Prop := match gfl o idx with
  | some (_, ci, j, _) => if f = ci then (match (gFin ci)[j]? with
    | some false => (match (gF ci)[j]? with
      | some 0 => k (gsu σ f i j x)
      | some 1 => (x = 0 ∨ x = 1) ∧ k (gsu σ f i j x)
      | _ => False)
    | _ => False) else False
  | none => False
/-- an element of a row of ints (or bytes, kd = 1) -/
def gai (kd f i : Nat) (j : Int32) (σ : gT) (k : gAV → Prop) : Prop := match gA f with
  | some (kd', n, _) => if kd' = kd then vp_in j n ∧ k (.inl (σ.1 f i j.toNatClampNeg)) else False
  | none => if kd = 0 then (vp_in j (gSV f).length ∧ k (.inl ((gSV f).getD j.toNatClampNeg 0))) else (if f = 51 then (vp_in j (gLen.getD i 0) ∧ k (.inl ((gByt.getD i []).getD j.toNatClampNeg 0))) else False)
def gal (f i : Nat) (j : Int32) (σ : gT) (k : gAV → Prop) : Prop := match gA f with
  | some (2, n, _) => vp_in j n ∧ k (.inr (.inl (σ.2 f i j.toNatClampNeg)))
  | _ => False
def gar (f : Nat) (j : Int32) (k : gAV → Prop) : Prop := match gA f with
  | some (kd + 3, n, g) => vp_in j n ∧ k (.inr (.inr (g, j.toNatClampNeg)))
  | _ => False
def gan (f i : Nat) (k : Int32 → Prop) : Prop := match gA f with
  | some (_, n, _) => k (Int32.ofNat n)
  | none => if f = 51 then k (Int32.ofNat (gLen.getD i 0)) else (match gSV f with
    | [] => False
    | a :: r => k (Int32.ofNat (a :: r).length))
def gasi (f i : Nat) (j x : Int32) (σ : gT) (k : gT → Prop) : Prop := match gA f with
  | some (0, n, _) => vp_in j n ∧ k (gsu σ f i j.toNatClampNeg x)
  | _ => False
def gasb (f i : Nat) (j x : Int32) (σ : gT) (k : gT → Prop) : Prop := match gA f with
  | some (1, n, _) => vp_in j n ∧ k (gsu σ f i j.toNatClampNeg (vp_nar .byte x))
  | _ => False
def gasl (f i : Nat) (j : Int32) (x : Int64) (σ : gT) (k : gT → Prop) : Prop := match gA f with
  | some (2, n, _) => vp_in j n ∧ k (gsl σ f i j.toNatClampNeg x)
  | _ => False
/-- a static read -/
def ggs (o idx : Nat) (k : gAV → Prop) : Prop := match gss o idx with
  | some (_, _, f, _) => k (.inr (.inr (f, 0)))
  | none => if o = 14 ∧ idx = gX_COMPACT_STRINGS then k (.inl 1) else if o = 14 ∧ idx = gX_SIOOBE_FORMATTER then k (.inr (.inr (52, 0))) else False
/-- the places of System.arraycopy -/
def gacp (o idx : Nat) : Bool := gACL.any (fun e => e.1 == o && e.2.1 == idx)
/-- a text constant -/
def gsr (o idx : Nat) : Option (Nat × Nat × Nat) := gSRL.find? (fun e => e.1 == o && e.2.1 == idx)
def gcopy (st : gSk) (σ : gT) (k : gSk → gT → Prop) : Prop := match st with
  | .inl n :: .inl dp :: .inr (.inr (g, b)) :: .inl sp :: .inr (.inr (f, a)) :: r => (match gA f, gA g with
    | some (0, n0, _), some (0, n1, _) => ¬ sp < 0 ∧ ¬ dp < 0 ∧ ¬ n < 0 ∧ sp.toNatClampNeg + n.toNatClampNeg ≤ n0 ∧ dp.toNatClampNeg + n.toNatClampNeg ≤ n1 ∧ (if gcats r ≤ 8 then k r (gsc σ f a sp.toNatClampNeg g b dp.toNatClampNeg n.toNatClampNeg) else False)
    | _, _ => False)
  | _ => False
def gfc (f : Nat) : Nat := if f = 50 then 14 else if f < 11 then f else 99
def gcalls (CX : gMY → List gAV → gT → (Option gAV → gT → Prop) → Prop) (o idx : Nat) (st : gSk) (σ : gT) (k : gSk → gT → Prop) : Prop := match giv o idx with
  | some (_, kd, n, my, _) => if (kd = 0 ∨ kd = 2) ∧ n ≤ st.length ∧ gcats (st.drop n) ≤ 8 then CX my (st.take n).reverse σ (fun r σ' => k (r.toList ++ st.drop n) σ') else False
  | none => False
def gcallv (CX : gMY → List gAV → gT → (Option gAV → gT → Prop) → Prop) (o idx : Nat) (st : gSk) (σ : gT) (k : gSk → gT → Prop) : Prop := match giv o idx with
  | some (_, kd, n, my, _) => p_v (st.take n).reverse fun v as => p_lR v fun f i => if kd = 100 + gfc f ∧ n ≤ st.length ∧ gcats (st.drop n) ≤ 8 then CX my (.inr (.inr (f, i)) :: as) σ (fun r σ' => k (r.toList ++ st.drop n) σ') else False
  | none => False
def gretz (rt : Option FieldType) (v : Int32) (k : Prop) : Prop := match rt with
  | some .int => k
  | some .boolean => (v = 0 ∨ v = 1) ∧ k
  | some .byte => v.toInt8.toInt32 = v ∧ k
  | some .char => (v.toUInt32 % 65536).toInt32 = v ∧ k
  | _ => False
/-- constants -/
def gldc (o idx : Nat) (k : gAV → Prop) : Prop := match gcs o idx with
  | some (_, .inl x, _) => k (.inl x)
  | some _ => False
  | none => (match gsr o idx with
    | some (_, _, q) => k (.inr (.inr (50, q)))
    | none => False)
def gldw (o idx : Nat) (k : gAV → Prop) : Prop := match gcs o idx with
  | some (_, .inl x, _) => k (.inl x)
  | _ => False
def gld2 (o idx : Nat) (k : gAV → Prop) : Prop := match gcs o idx with
  | some (_, .inr (.inl x), _) => k (.inr (.inl x))
  | _ => False
/-- what a return asks -/
def gret (rt : Option FieldType) (post : Option gAV → gT → Prop) (st : gSk) (σ : gT) (ii : Instr) : Prop := match ii with
  | .ireturn => (match st with
    | [.inl v] => gretz rt v (post (some (.inl v)) σ)
    | _ => False)
  | .lreturn => (match st, rt with
    | [.inr (.inl v)], some .long => post (some (.inr (.inl v))) σ
    | _, _ => False)
  | .areturn => (match st with
    | [.inr (.inr (f, i))] => if f = 52 then False else (match rt with
      | some (.object _) => post (some (.inr (.inr (f, i)))) σ
      | some (.array _) => post (some (.inr (.inr (f, i)))) σ
      | _ => False)
    | _ => False)
  | .return_ => (match st, rt with
    | [], none => post none σ
    | _, _ => False)
  | _ => False
/-- what an instruction asks: kn goes on behind it, kj at a place -/
def gx (o : Nat) (rt : Option FieldType) (post : Option gAV → gT → Prop) (CX : gMY → List gAV → gT → (Option gAV → gT → Prop) → Prop) (pc : Nat) (L : gLo) (st : gSk) (σ : gT) (kn : gLo → gSk → gT → Prop) (kj : gK) (ii : Instr) : Prop := match ii with
  | .iload_n n => p_lo L (n : Nat) fun v => p_lI v fun x => kn L (.inl x :: st) σ
  | .iload n => p_lo L n fun v => p_lI v fun x => kn L (.inl x :: st) σ
  | .lload_n n => p_lo L (n : Nat) fun v => p_lL v fun x => kn L (.inr (.inl x) :: st) σ
  | .lload n => p_lo L n fun v => p_lL v fun x => kn L (.inr (.inl x) :: st) σ
  | .aload_n n => p_lo L (n : Nat) fun v => p_lR v fun f i => if f = 52 then False else kn L (.inr (.inr (f, i)) :: st) σ
  | .aload n => p_lo L n fun v => p_lR v fun f i => if f = 52 then False else kn L (.inr (.inr (f, i)) :: st) σ
  | .istore_n n => p_i st fun a r => if (n : Nat) < L.length then kn (gst L (n : Nat) (.inl a)) r σ else False
  | .istore n => p_i st fun a r => if n < L.length then kn (gst L n (.inl a)) r σ else False
  | .lstore_n n => p_l st fun a r => if (n : Nat) + 1 < L.length then kn (gst L (n : Nat) (.inr (.inl a))) r σ else False
  | .lstore n => p_l st fun a r => if n + 1 < L.length then kn (gst L n (.inr (.inl a))) r σ else False
  | .astore_n n => p_r st fun f i r => if f = 52 then False else if (n : Nat) < L.length then kn (gst L (n : Nat) (.inr (.inr (f, i)))) r σ else False
  | .astore n => p_r st fun f i r => if f = 52 then False else if n < L.length then kn (gst L n (.inr (.inr (f, i)))) r σ else False
  | .iinc n k => p_lo L n fun v => p_lI v fun x => if n < L.length then kn (gst L n (.inl (x + gci k))) st σ else False
  | .iconst k => kn L (.inl (gci k) :: st) σ
  | .bipush k => kn L (.inl (gci k) :: st) σ
  | .sipush k => kn L (.inl (gci k) :: st) σ
  | .lconst k => kn L (.inr (.inl (Int64.ofNat (k : Nat))) :: st) σ
  | .ldc idx => gldc o idx fun v => kn L (v :: st) σ
  | .ldc_w idx => gldw o idx fun v => kn L (v :: st) σ
  | .ldc2_w idx => gld2 o idx fun v => kn L (v :: st) σ
  | .iadd => p_ii st fun a b r => kn L (.inl (a + b) :: r) σ
  | .isub => p_ii st fun a b r => kn L (.inl (a - b) :: r) σ
  | .imul => p_ii st fun a b r => kn L (.inl (a * b) :: r) σ
  | .iand => p_ii st fun a b r => kn L (.inl (a &&& b) :: r) σ
  | .ior => p_ii st fun a b r => kn L (.inl (a ||| b) :: r) σ
  | .idiv => p_ii st fun a b r => ¬ b = 0 ∧ kn L (.inl (a / b) :: r) σ
  | .irem => p_ii st fun a b r => ¬ b = 0 ∧ kn L (.inl (a - a / b * b) :: r) σ
  | .ishl => p_ii st fun a b r => kn L (.inl (a <<< (b &&& 31)) :: r) σ
  | .ishr => p_ii st fun a b r => kn L (.inl (a >>> (b &&& 31)) :: r) σ
  | .iushr => p_ii st fun a b r => kn L (.inl ((a.toUInt32 >>> (b.toUInt32 &&& Int32.toUInt32 31)).toInt32) :: r) σ
  | .ineg => p_i st fun a r => kn L (.inl (-a) :: r) σ
  | .ladd => p_ll st fun a b r => kn L (.inr (.inl (a + b)) :: r) σ
  | .lsub => p_ll st fun a b r => kn L (.inr (.inl (a - b)) :: r) σ
  | .lmul => p_ll st fun a b r => kn L (.inr (.inl (a * b)) :: r) σ
  | .land => p_ll st fun a b r => kn L (.inr (.inl (a &&& b)) :: r) σ
  | .lor => p_ll st fun a b r => kn L (.inr (.inl (a ||| b)) :: r) σ
  | .ldiv => p_ll st fun a b r => ¬ b = 0 ∧ kn L (.inr (.inl (a / b)) :: r) σ
  | .lrem => p_ll st fun a b r => ¬ b = 0 ∧ kn L (.inr (.inl (a - a / b * b)) :: r) σ
  | .lneg => p_l st fun a r => kn L (.inr (.inl (-a)) :: r) σ
  | .lshl => p_li st fun a b r => kn L (.inr (.inl (a <<< (b.toInt64 &&& 63))) :: r) σ
  | .lshr => p_li st fun a b r => kn L (.inr (.inl (a >>> (b.toInt64 &&& 63))) :: r) σ
  | .lushr => p_li st fun a b r => kn L (.inr (.inl ((a.toUInt64 >>> (b.toInt64.toUInt64 &&& Int64.toUInt64 63)).toInt64)) :: r) σ
  | .lcmp => p_ll st fun a b r => kn L (.inl (lg_cmp a b) :: r) σ
  | .i2l => p_i st fun a r => kn L (.inr (.inl a.toInt64) :: r) σ
  | .l2i => p_l st fun a r => kn L (.inl a.toInt32 :: r) σ
  | .i2b => p_i st fun a r => kn L (.inl a.toInt8.toInt32 :: r) σ
  | .i2s => p_i st fun a r => kn L (.inl a.toInt16.toInt32 :: r) σ
  | .i2c => p_i st fun a r => kn L (.inl (a.toUInt32 % 65536).toInt32 :: r) σ
  | .dup => p_v st fun v r => if gcat v = 1 then kn L (v :: v :: r) σ else False
  | .pop => p_v st fun v r => if gcat v = 1 then kn L r σ else False
  | .dup2 => p_ri st fun f i j r => if f = 52 then False else kn L (.inl j :: .inr (.inr (f, i)) :: .inl j :: .inr (.inr (f, i)) :: r) σ
  | .goto off => kj (gtg pc off) L st σ
  | .ifCond c off => p_i st fun a r => gif c a (kj (gtg pc off) L r σ) (kn L r σ)
  | .if_icmp c off => p_ii st fun a b r => gcmp c a b (kj (gtg pc off) L r σ) (kn L r σ)
  | .tableswitch d lo hi offs => p_i st fun a r => (a.toInt < lo ∨ hi < a.toInt → kj (gtg pc d) L r σ) ∧ gsw a.toInt lo (fun off => kj (gtg pc off) L r σ) offs.toList
  | .lookupswitch d ps => p_i st fun a r => glk a.toInt d (fun off => kj (gtg pc off) L r σ) ps.toList
  | .getfield idx => p_r st fun f i r => ggf o idx f i σ fun v => kn L (v :: r) σ
  | .putfield idx => p_v st fun v r => p_lI v fun x => p_r r fun f i r => gpf o idx f i σ x fun σ' => kn L r σ'
  | .iaload => p_ri st fun f i j r => gai 0 f i j σ fun v => kn L (v :: r) σ
  | .baload => p_ri st fun f i j r => gai 1 f i j σ fun v => kn L (v :: r) σ
  | .laload => p_ri st fun f i j r => gal f i j σ fun v => kn L (v :: r) σ
  | .aaload => p_ri st fun f _ j r => gar f j fun v => kn L (v :: r) σ
  | .iastore => p_rii st fun f i j x r => gasi f i j x σ fun σ' => kn L r σ'
  | .bastore => p_rii st fun f i j x r => gasb f i j x σ fun σ' => kn L r σ'
  | .lastore => p_ril st fun f i j x r => gasl f i j x σ fun σ' => kn L r σ'
  | .arraylength => p_r st fun f i r => gan f i fun v => kn L (.inl v :: r) σ
  | .getstatic idx => ggs o idx fun v => kn L (v :: st) σ
  | .invokestatic idx => (match gacp o idx with
    | true => gcopy st σ fun r σ' => kn L r σ'
    | false => gcalls CX o idx st σ fun r σ' => kn L r σ')
  | .invokevirtual idx => gcallv CX o idx st σ fun r σ' => kn L r σ'
  | .ireturn => gret rt post st σ .ireturn
  | .lreturn => gret rt post st σ .lreturn
  | .areturn => gret rt post st σ .areturn
  | .return_ => gret rt post st σ .return_
  | _ => False
/-- a block of instructions -/
def gwl (o : Nat) (rt : Option FieldType) (post : Option gAV → gT → Prop) (CX : gMY → List gAV → gT → (Option gAV → gT → Prop) → Prop) (kj : gK) : List (Instr × Nat) → gK
  | [] => kj
  | q :: cs => fun pc L st σ => gx o rt post CX pc L st σ (gwl o rt post CX kj cs (pc + q.2)) kj q.1
end
section
/-! THE WORLD: the store as cells of the heap -/
def gv (G : gG) : gAV → Value
  | .inl x => .int x
  | .inr (.inl y) => .long y
  | .inr (.inr q) => if q.1 = 52 then G.2.2.2 else .ref (G.1 q.1 q.2)
def gok : gAV → Prop
  | .inr (.inr q) => q.2 < gN q.1
  | _ => True
def gvs : gSk → Prop
  | [] => True
  | v :: r => gok v ∧ gvs r
def gokO : Option gAV → Prop
  | none => True
  | some v => gok v
def gvl (L : gLo) : Prop := ∀ (i : Nat) (v : gAV), L[i]? = some (some v) → gok v
def gfv (G : gG) (σ : gT) (f i j k : Nat) : Value := match k with
  | 0 => .int (σ.1 f i j)
  | 1 => .int (σ.1 f i j)
  | g + 2 => .ref (G.1 g i)
def gE (G : gG) (σ : gT) (f i : Nat) : va_E := match gA f with
  | none => .inr (f, (List.range (gF f).length).map (fun j => gfv G σ f i j ((gF f).getD j 0)))
  | some (kd, n, g) => .inl (G.2.1 kd, n, match kd with
    | 0 => .inl (σ.1 f i)
    | 1 => .inl (σ.1 f i)
    | 2 => .inr (.inl (σ.2 f i))
    | _ => .inr (.inr (.inr (.inr (fun q => some (G.1 g q))))))
def gC : List (Nat × Nat) := (List.range 39).flatMap (fun f => (List.range (gN f)).map (fun i => (f, i)))
def gW (G : gG) (σ : gT) : va_W := gC.map (fun q => (G.1 q.1 q.2, gE G σ q.1 q.2))
def gTy (G : gG) : List (ClassId × FieldType) := [(G.2.1 0, .int), (G.2.1 1, .byte), (G.2.1 2, .long), (G.2.1 3, .object RX6), (G.2.1 4, .object RX8), (G.2.1 5, .object RX3)]
/-- the addresses are apart, and lie in A -/
def gGok (G : gG) (A : Nat → Prop) : Prop := (∀ q ∈ gC, A (G.1 q.1 q.2)) ∧ ∀ q ∈ gC, ∀ r ∈ gC, G.1 q.1 q.2 = G.1 r.1 r.2 → q = r
theorem gC_nd : gC.Nodup := by decide +kernel
theorem gC_mem {f i : Nat} (hf : f < 39) (hi : i < gN f) : (f, i) ∈ gC := by
  unfold gC
  rw [List.mem_flatMap]
  exact ⟨f, List.mem_range.mpr hf, List.mem_map.mpr ⟨i, List.mem_range.mpr hi, rfl⟩⟩
theorem gC_lt {q : Nat × Nat} (h : q ∈ gC) : q.1 < 39 ∧ q.2 < gN q.1 := by
  unfold gC at h
  obtain ⟨f, hf, h2⟩ := List.mem_flatMap.mp h
  obtain ⟨i, hi, rfl⟩ := List.mem_map.mp h2
  exact ⟨List.mem_range.mp hf, List.mem_range.mp hi⟩
theorem gW_at (G : gG) (σ : gT) {f i : Nat} (hf : f < 39) (hi : i < gN f) : ∃ k : Nat, gC[k]? = some (f, i) ∧ (gW G σ)[k]? = some (G.1 f i, gE G σ f i) := by
  obtain ⟨k, hk⟩ := List.getElem?_of_mem (gC_mem hf hi)
  exact ⟨k, hk, by rw [gW, List.getElem?_map, hk]; rfl⟩
theorem gW_get {G : gG} {σ : gT} {k : Nat} {q : Nat × va_E} (h : (gW G σ)[k]? = some q) : ∃ r, gC[k]? = some r ∧ q = (G.1 r.1 r.2, gE G σ r.1 r.2) := by
  rw [gW, List.getElem?_map] at h
  cases hr : gC[k]? with
  | none => rw [hr] at h; cases h
  | some r => rw [hr] at h; exact ⟨r, rfl, (Option.some.inj h).symm⟩
theorem gC_inj {i j : Nat} {q : Nat × Nat} (h1 : gC[i]? = some q) (h2 : gC[j]? = some q) : i = j := by
  obtain ⟨l1, e1⟩ := List.getElem?_eq_some_iff.mp h1
  obtain ⟨l2, e2⟩ := List.getElem?_eq_some_iff.mp h2
  exact (List.getElem_inj gC_nd).mp (e1.trans e2.symm)
theorem gW_D {G : gG} {A : Nat → Prop} (h : gGok G A) (σ : gT) : va_D A (gW G σ) := by
  refine ⟨fun i j p q hp hq e => ?_, fun k q hk => ?_⟩
  · obtain ⟨r, h1, rfl⟩ := gW_get hp
    obtain ⟨t, h2, rfl⟩ := gW_get hq
    have := h.2 r (List.mem_of_getElem? h1) t (List.mem_of_getElem? h2) e
    subst this
    exact gC_inj h1 h2
  · obtain ⟨r, h1, rfl⟩ := gW_get hk
    exact h.1 r (List.mem_of_getElem? h1)
/-- the world behind a write to one cell -/
theorem gW_set {G : gG} {A : Nat → Prop} (hG : gGok G A) {σ σ' : gT} {f i k : Nat} {e : va_E} {H : Heap} (hk : gC[k]? = some (f, i)) (he : gE G σ' f i = e) (ho : ∀ q : Nat × Nat, q ≠ (f, i) → gE G σ' q.1 q.2 = gE G σ q.1 q.2) (hP : va_P G.2.2.1 gCl ((gW G σ).set k (G.1 f i, e)) H) : va_P G.2.2.1 gCl (gW G σ') H := by
  intro j q hj
  obtain ⟨r, h1, rfl⟩ := gW_get hj
  by_cases hjk : j = k
  · subst hjk
    rw [hk] at h1
    cases h1
    refine hP j _ ?_
    have hl : j < (gW G σ).length := by
      rw [gW, List.length_map]
      exact (List.getElem?_eq_some_iff.mp hk).1
    rw [List.getElem?_set_self hl, he]
  · have hne : r ≠ (f, i) := fun z => hjk (gC_inj h1 (by rw [z]; exact hk))
    refine hP j _ ?_
    rw [List.getElem?_set_ne (Ne.symm hjk), gW, List.getElem?_map, h1, ho r hne]
    rfl
theorem gv_cat {G : gG} (hn : G.2.2.2.category = 1) (v : gAV) : (gv G v).category = gcat v := by
  match v with
  | .inl x => rfl
  | .inr (.inl y) => rfl
  | .inr (.inr q) =>
    show (if q.1 = 52 then G.2.2.2 else Value.ref (G.1 q.1 q.2)).category = 1
    split
    · exact hn
    · rfl
theorem gv_cats {G : gG} (hn : G.2.2.2.category = 1) : ∀ (r : gSk), ((r.map (gv G)).map fun v => v.category).sum = gcats r
  | [] => rfl
  | v :: r => by
    rw [List.map_cons, List.map_cons, List.sum_cons, gv_cats hn r, gv_cat hn v]
    rfl
theorem gv_ref {G : gG} {f i : Nat} (h : ¬ f = 52) : gv G (.inr (.inr (f, i))) = .ref (G.1 f i) := if_neg h
theorem gvs_drop : ∀ (n : Nat) {st : gSk}, gvs st → gvs (st.drop n)
  | 0, _, h => h
  | n + 1, [], _ => trivial
  | n + 1, v :: r, h => gvs_drop n (st := r) h.2
theorem gvs_mem : ∀ {st : gSk}, gvs st ↔ ∀ v ∈ st, gok v
  | [] => ⟨fun _ _ h => (List.not_mem_nil h).elim, fun _ => trivial⟩
  | v :: r => by
    rw [List.forall_mem_cons, ← gvs_mem (st := r)]
    rfl
theorem gvs_take {n : Nat} {st : gSk} (h : gvs st) : gvs (st.take n).reverse := by
  rw [gvs_mem] at h ⊢
  intro v hv
  exact h v (List.mem_of_mem_take (List.mem_reverse.mp hv))
theorem gvs_app {a b : gSk} (h1 : gvs a) (h2 : gvs b) : gvs (a ++ b) := by
  rw [gvs_mem] at h1 h2 ⊢
  intro v hv
  rcases List.mem_append.mp hv with h | h
  · exact h1 v h
  · exact h2 v h
/-! the locals -/
def gLH (G : gG) (ls : Array Slot) (nL : Nat) (L : gLo) : Prop := ls.size = nL ∧ lv_wf ls ∧ L.length = nL ∧ ∀ (i : Nat) (v : gAV), L[i]? = some (some v) → ls[i]? = some (.val (gv G v))
def gpr (G : gG) (L : gLo) : List (Nat × Value) := (List.range L.length).filterMap (fun i => match L[i]? with
  | some (some v) => some (i, gv G v)
  | _ => none)
theorem gpr_mem {G : gG} {L : gLo} {q : Nat × Value} : q ∈ gpr G L ↔ ∃ v, L[q.1]? = some (some v) ∧ q.2 = gv G v := by
  unfold gpr
  rw [List.mem_filterMap]
  constructor
  · rintro ⟨i, -, h⟩
    split at h
    · rename_i v hv
      cases h
      exact ⟨v, hv, rfl⟩
    · cases h
  · rintro ⟨v, h1, h2⟩
    refine ⟨q.1, List.mem_range.mpr (List.getElem?_eq_some_iff.mp h1).1, ?_⟩
    rw [h1]
    show some (q.1, gv G v) = some q
    rw [← h2]
theorem gLH.has {G : gG} {ls : Array Slot} {nL : Nat} {L : gLo} (h : gLH G ls nL L) : lv_has ls nL (gpr G L) := by
  refine ⟨h.1, h.2.1, fun q hq => ?_⟩
  obtain ⟨v, h1, h2⟩ := gpr_mem.mp hq
  rw [h2]
  exact h.2.2.2 q.1 v h1
theorem gk_get {L : gLo} {i j : Nat} {w : gAV} (h : (gkl L i)[j]? = some (some w)) : L[j]? = some (some w) ∧ ¬ (j + 1 = i ∧ gcat w = 2) := by
  cases i with
  | zero => exact ⟨h, fun z => by omega⟩
  | succ k =>
    unfold gkl at h
    dsimp only at h
    split at h
    · rw [List.getElem?_set] at h
      by_cases hk : k = j
      · subst hk
        rw [if_pos rfl] at h
        split at h <;> cases h
      · rw [if_neg hk] at h
        exact ⟨h, fun z => hk (by omega)⟩
    · rename_i hno
      refine ⟨h, fun z => ?_⟩
      have hj : j = k := by omega
      subst hj
      match w, z.2, h with
      | .inl _, z2, _ => cases z2
      | .inr (.inl y), _, h => exact hno y h
      | .inr (.inr _), z2, _ => cases z2
theorem gk_len {L : gLo} {i : Nat} : (gkl L i).length = L.length := by
  cases i with
  | zero => rfl
  | succ k =>
    unfold gkl
    dsimp only
    split
    · rw [List.length_set]
    · rfl
theorem gst_1 {L : gLo} {i : Nat} {v : gAV} (hv : gcat v = 1) : gst L i v = (gkl L i).set i (some v) := by
  match v, hv with
  | .inl _, _ => rfl
  | .inr (.inl _), h => cases h
  | .inr (.inr _), _ => rfl
theorem gst_len (L : gLo) (i : Nat) (v : gAV) : (gst L i v).length = L.length := by
  match v with
  | .inl x => show ((gkl L i).set i (some (.inl x))).length = _; rw [List.length_set, gk_len]
  | .inr (.inl x) => show (((gkl L i).set i (some (.inr (.inl x)))).set (i + 1) none).length = _; rw [List.length_set, List.length_set, gk_len]
  | .inr (.inr x) => show ((gkl L i).set i (some (.inr (.inr x)))).length = _; rw [List.length_set, gk_len]
theorem gst_get1 {L : gLo} {i j : Nat} {v w : gAV} (hv : gcat v = 1) (h : (gst L i v)[j]? = some (some w)) : (j = i ∧ w = v) ∨ (j ≠ i ∧ L[j]? = some (some w) ∧ ¬ (j + 1 = i ∧ gcat w = 2)) := by
  rw [gst_1 hv, List.getElem?_set] at h
  by_cases hij : i = j
  · subst hij
    rw [if_pos rfl] at h
    split at h
    · cases h
      exact Or.inl ⟨rfl, rfl⟩
    · cases h
  · rw [if_neg hij] at h
    exact Or.inr ⟨Ne.symm hij, gk_get h⟩
theorem gst_get2 {L : gLo} {i j : Nat} {y : Int64} {w : gAV} (h : (gst L i (.inr (.inl y)))[j]? = some (some w)) : (j = i ∧ w = .inr (.inl y)) ∨ (j ≠ i ∧ j ≠ i + 1 ∧ L[j]? = some (some w) ∧ ¬ (j + 1 = i ∧ gcat w = 2)) := by
  have h : (((gkl L i).set i (some (.inr (.inl y)))).set (i + 1) none)[j]? = some (some w) := h
  rw [List.getElem?_set] at h
  by_cases h1 : i + 1 = j
  · rw [if_pos h1] at h
    split at h <;> cases h
  · rw [if_neg h1, List.getElem?_set] at h
    by_cases hij : i = j
    · subst hij
      rw [if_pos rfl] at h
      split at h
      · cases h
        exact Or.inl ⟨rfl, rfl⟩
      · cases h
    · rw [if_neg hij] at h
      exact Or.inr ⟨Ne.symm hij, Ne.symm h1, gk_get h⟩
theorem gLH.st1 {G : gG} (hn : G.2.2.2.category = 1) {ls ls' : Array Slot} {nL : Nat} {L : gLo} (h : gLH G ls nL L) {i : Nat} {v : gAV} (hv : gcat v = 1) (h' : lv_has ls' nL ((i, gv G v) :: (gpr G L).filter (fun q => !(q.1 == i) && !(q.1 + 1 == i && q.2.category == 2)))) : gLH G ls' nL (gst L i v) := by
  refine ⟨h'.1, h'.2.1, (gst_len L i v).trans h.2.2.1, fun j w hj => ?_⟩
  rcases gst_get1 hv hj with ⟨rfl, rfl⟩ | ⟨h1, h2, h3⟩
  · exact h'.2.2 (j, gv G w) List.mem_cons_self
  · refine h'.2.2 (j, gv G w) (List.mem_cons_of_mem _ (List.mem_filter.mpr ⟨gpr_mem.mpr ⟨w, h2, rfl⟩, ?_⟩))
    rw [gv_cat hn]
    simp only [Bool.and_eq_true, Bool.not_eq_true', beq_eq_false_iff_ne, ne_eq, Bool.and_eq_false_iff]
    exact ⟨h1, by by_cases z : j + 1 = i <;> simp_all⟩
theorem gLH.st2 {G : gG} (hn : G.2.2.2.category = 1) {ls ls' : Array Slot} {nL : Nat} {L : gLo} (h : gLH G ls nL L) {i : Nat} {y : Int64} (h' : lv_has ls' nL ((i, Value.long y) :: (gpr G L).filter (fun q => !(q.1 == i) && (!(q.1 == i + 1) && !(q.1 + 1 == i && q.2.category == 2))))) : gLH G ls' nL (gst L i (.inr (.inl y))) := by
  refine ⟨h'.1, h'.2.1, (gst_len L i _).trans h.2.2.1, fun j w hj => ?_⟩
  rcases gst_get2 hj with ⟨rfl, rfl⟩ | ⟨h1, h0, h2, h3⟩
  · exact h'.2.2 (j, Value.long y) List.mem_cons_self
  · refine h'.2.2 (j, gv G w) (List.mem_cons_of_mem _ (List.mem_filter.mpr ⟨gpr_mem.mpr ⟨w, h2, rfl⟩, ?_⟩))
    rw [gv_cat hn]
    simp only [Bool.and_eq_true, Bool.not_eq_true', beq_eq_false_iff_ne, ne_eq, Bool.and_eq_false_iff]
    exact ⟨h1, h0, by by_cases z : j + 1 = i <;> simp_all⟩
theorem gvl_st {L : gLo} {i : Nat} {v : gAV} (h : gvl L) (hv : gok v) : gvl (gst L i v) := by
  intro j w hj
  match v, hv, hj with
  | .inl x, hv, hj =>
    rcases gst_get1 (v := .inl x) rfl hj with ⟨-, rfl⟩ | ⟨-, h2, -⟩
    · exact hv
    · exact h j w h2
  | .inr (.inl y), hv, hj =>
    rcases gst_get2 hj with ⟨-, rfl⟩ | ⟨-, -, h2, -⟩
    · exact hv
    · exact h j w h2
  | .inr (.inr q), hv, hj =>
    rcases gst_get1 (v := .inr (.inr q)) rfl hj with ⟨-, rfl⟩ | ⟨-, h2, -⟩
    · exact hv
    · exact h j w h2
end
section
/-! SOUNDNESS of the abstract machine -/
-- inversions of the shapes
theorem p_i_inv {st : gSk} {k : Int32 → gSk → Prop} (h : p_i st k) : ∃ a r, st = .inl a :: r ∧ k a r := by
  unfold p_i at h; split at h
  · exact ⟨_, _, rfl, h⟩
  · exact h.elim
theorem p_l_inv {st : gSk} {k : Int64 → gSk → Prop} (h : p_l st k) : ∃ a r, st = .inr (.inl a) :: r ∧ k a r := by
  unfold p_l at h; split at h
  · exact ⟨_, _, rfl, h⟩
  · exact h.elim
theorem p_r_inv {st : gSk} {k : Nat → Nat → gSk → Prop} (h : p_r st k) : ∃ f i r, st = .inr (.inr (f, i)) :: r ∧ k f i r := by
  unfold p_r at h; split at h
  · exact ⟨_, _, _, rfl, h⟩
  · exact h.elim
theorem p_ii_inv {st : gSk} {k : Int32 → Int32 → gSk → Prop} (h : p_ii st k) : ∃ a b r, st = .inl b :: .inl a :: r ∧ k a b r := by
  unfold p_ii at h; split at h
  · exact ⟨_, _, _, rfl, h⟩
  · exact h.elim
theorem p_ll_inv {st : gSk} {k : Int64 → Int64 → gSk → Prop} (h : p_ll st k) : ∃ a b r, st = .inr (.inl b) :: .inr (.inl a) :: r ∧ k a b r := by
  unfold p_ll at h; split at h
  · exact ⟨_, _, _, rfl, h⟩
  · exact h.elim
theorem p_li_inv {st : gSk} {k : Int64 → Int32 → gSk → Prop} (h : p_li st k) : ∃ a b r, st = .inl b :: .inr (.inl a) :: r ∧ k a b r := by
  unfold p_li at h; split at h
  · exact ⟨_, _, _, rfl, h⟩
  · exact h.elim
theorem p_ri_inv {st : gSk} {k : Nat → Nat → Int32 → gSk → Prop} (h : p_ri st k) : ∃ f i j r, st = .inl j :: .inr (.inr (f, i)) :: r ∧ k f i j r := by
  unfold p_ri at h; split at h
  · exact ⟨_, _, _, _, rfl, h⟩
  · exact h.elim
theorem p_rii_inv {st : gSk} {k : Nat → Nat → Int32 → Int32 → gSk → Prop} (h : p_rii st k) : ∃ f i j x r, st = .inl x :: .inl j :: .inr (.inr (f, i)) :: r ∧ k f i j x r := by
  unfold p_rii at h; split at h
  · exact ⟨_, _, _, _, _, rfl, h⟩
  · exact h.elim
theorem p_ril_inv {st : gSk} {k : Nat → Nat → Int32 → Int64 → gSk → Prop} (h : p_ril st k) : ∃ f i j x r, st = .inr (.inl x) :: .inl j :: .inr (.inr (f, i)) :: r ∧ k f i j x r := by
  unfold p_ril at h; split at h
  · exact ⟨_, _, _, _, _, rfl, h⟩
  · exact h.elim
theorem p_v_inv {st : gSk} {k : gAV → gSk → Prop} (h : p_v st k) : ∃ v r, st = v :: r ∧ k v r := by
  unfold p_v at h; split at h
  · exact ⟨_, _, rfl, h⟩
  · exact h.elim
theorem p_lo_inv {L : gLo} {i : Nat} {k : gAV → Prop} (h : p_lo L i k) : ∃ v, L[i]? = some (some v) ∧ k v := by
  unfold p_lo at h; split at h
  · exact ⟨_, by assumption, h⟩
  · exact h.elim
theorem p_lI_inv {v : gAV} {k : Int32 → Prop} (h : p_lI v k) : ∃ x, v = .inl x ∧ k x := by
  unfold p_lI at h; split at h
  · exact ⟨_, rfl, h⟩
  · exact h.elim
theorem p_lL_inv {v : gAV} {k : Int64 → Prop} (h : p_lL v k) : ∃ x, v = .inr (.inl x) ∧ k x := by
  unfold p_lL at h; split at h
  · exact ⟨_, rfl, h⟩
  · exact h.elim
theorem p_lR_inv {v : gAV} {k : Nat → Nat → Prop} (h : p_lR v k) : ∃ f i, v = .inr (.inr (f, i)) ∧ k f i := by
  unfold p_lR at h; split at h
  · exact ⟨_, _, rfl, h⟩
  · exact h.elim
theorem p_if {c : Prop} [Decidable c] {k : Prop} (h : if c then k else False) : c ∧ k := by
  by_cases hc : c
  · rw [if_pos hc] at h; exact ⟨hc, h⟩
  · rw [if_neg hc] at h; exact h.elim
theorem p_nif {c : Prop} [Decidable c] {k : Prop} (h : if c then False else k) : ¬ c ∧ k := by
  by_cases hc : c
  · rw [if_pos hc] at h; exact h.elim
  · rw [if_neg hc] at h; exact ⟨hc, h⟩
def gSt (G : gG) (A : Nat → Prop) (U : State) (H : Heap) : Prop :=
  (∀ e ∈ gSL, va_Z (gcn e.1) (gSN e.2.2.1) "[I" (.ref (G.1 e.2.2.1 0)) A U H ∧ va_T .int (G.1 e.2.2.1 0) (gSV e.2.2.1).length (fun j => .int ((gSV e.2.2.1).getD j 0)) A U H) ∧
  va_Z "java/lang/String" "COMPACT_STRINGS" "Z" (.int 1) A U H ∧
  va_Z "jdk/internal/util/Preconditions" "SIOOBE_FORMATTER" "Ljava/util/function/BiFunction;" G.2.2.2 A U H ∧
  vk_S 7 gLen gByt (G.1 50) (G.1 51) A U H ∧
  (∀ e ∈ gSRL, vk_R (gcn e.1) e.2.1 (gTx e.2.2) (G.1 50 e.2.2) U) ∧
  ∀ (o : Nat), ∀ e ∈ gIL o, e.2.1 = 2 → va_Nw (.methodLinkNest (gcn o) e.1 e.2.2.2.1.1 "GrainWaves") U
theorem gSt.to {G : gG} {A : Nat → Prop} {s U : State} {H0 H : Heap} (hW : s.WarmedH U.vm) (h : gSt G A s H0) (hk : ∀ a : Nat, a < H0.size → ¬ A a → H[a]? = H0[a]?) : gSt G A U H :=
  ⟨fun e he => ⟨va_Z.moved hW.alike ((h.1 e he).1.kept hk), va_T.moved hW.alike ((h.1 e he).2.kept hk)⟩, va_Z.moved hW.alike (h.2.1.kept hk), va_Z.moved hW.alike (h.2.2.1.kept hk), vk_S.moved hW.alike (h.2.2.2.1.kept hk), fun e he => (h.2.2.2.2.1 e he).warm hW, fun o e he h2 => va_Nw.warmM hW (h.2.2.2.2.2 o e he h2)⟩
theorem gSt.same {G : gG} {A : Nat → Prop} {u U : State} {H : Heap} (hv : U.vm = u.vm) (h : gSt G A u H) : gSt G A U H := by
  have ha : u.vm.Alike U.vm := by rw [hv]; exact Vm.Alike.refl u.vm
  exact ⟨fun e he => ⟨va_Z.moved ha (h.1 e he).1, va_T.moved ha (h.1 e he).2⟩, va_Z.moved ha h.2.1, va_Z.moved ha h.2.2.1, vk_S.moved ha h.2.2.2.1, fun e he => (h.2.2.2.2.1 e he).same hv, fun o e he h2 => va_Nw.same rfl hv.symm (h.2.2.2.2.2 o e he h2)⟩
def gPre (G : gG) (A : Nat → Prop) (σ : gT) (U : State) : Prop := va_P G.2.2.1 gCl (gW G σ) U.heap ∧ va_K G.2.2.1 gCl (gTy G) U ∧ gSt G A U U.heap
def gQ (G : gG) (A : Nat → Prop) (post : Option gAV → gT → Prop) : Array Value → State → Outcome → State → Prop := fun _ st oc t => ∃ (r : Option gAV) (σ : gT), oc = .returned (r.map (gv G)) ∧ gokO r ∧ post r σ ∧ va_P G.2.2.1 gCl (gW G σ) t.heap ∧ va_F A st t
def gRm (d : Nat) : Room := { frames := d, cells := 0, slots := 0, locals := 64 * d }
def gws (my : gMY) : List Cond := Cond.code my.1 my.2.1 my.2.2.1 my.2.2.2 :: gWs
/-- A METHOD'S CONTRACT over the abstract machine: called with these values from this store it comes back with an answer and a store of post; d bounds the calls that stand open -/
def gCx (l : Launch) (G : gG) (A : Nat → Prop) (d : Nat) (my : gMY) (as : List gAV) (σ : gT) (post : Option gAV → gT → Prop) : Prop := gGok G A → G.2.2.2.category = 1 → gvs as → Met l my.1 (gws my) (gRm d) (va_Pc (as.map (gv G)) (gPre G A σ)) (gQ G A post) 0 0 A
theorem gPre.blind (G : gG) (A : Nat → Prop) (σ : gT) (as : List Value) : FrameBlind (va_Pc as (gPre G A σ)) := by
  intro a U g mk h
  obtain ⟨h1, hP, hK, hS⟩ := h
  exact ⟨h1, hP, va_K.moved (u := U) (U := U.calling g mk a) (Vm.Alike.refl U.vm) hK, gSt.same rfl hS⟩
theorem gws_good {my : gMY} (h : Cond.code my.1 my.2.1 my.2.2.1 my.2.2.2 ∈ gWs) : GoodIn gWs (gws my) := by
  have key : ∀ w ∈ gWs, w ∈ gWs ∧ ((w.onTables && w.keeps) = true ∨ ∃ ty, w = .arrayClass ty) := fun w hw => ⟨hw, good_of_word (List.mem_filter.mp hw).2⟩
  intro w hw
  rcases List.mem_cons.mp hw with rfl | hw
  · exact key _ h
  · exact key w hw
/-- the length of an instruction; 0: a switch -/
def gln : Instr → Nat
  | .iload _ => 2
  | .lload _ => 2
  | .aload _ => 2
  | .istore _ => 2
  | .lstore _ => 2
  | .astore _ => 2
  | .bipush _ => 2
  | .ldc _ => 2
  | .sipush _ => 3
  | .ldc_w _ => 3
  | .ldc2_w _ => 3
  | .iinc _ _ => 3
  | .goto _ => 3
  | .ifCond _ _ => 3
  | .if_icmp _ _ => 3
  | .getfield _ => 3
  | .putfield _ => 3
  | .getstatic _ => 3
  | .invokestatic _ => 3
  | .invokevirtual _ => 3
  | .tableswitch _ _ _ _ => 0
  | .lookupswitch _ _ => 0
  | _ => 1
def gjp (pc : Nat) (off : Int) : Bool := decide (0 ≤ (pc : Int) + off)
/-- what is looked at ahead: jumps come to a place, small constants are what they are -/
def gjok (pc : Nat) : Instr → Bool
  | .goto off => gjp pc off
  | .ifCond _ off => gjp pc off
  | .if_icmp _ off => gjp pc off
  | .tableswitch d lo hi offs => gjp pc d && offs.toList.all (gjp pc) && decide (hi - lo + 1 = (offs.toList.length : Int))
  | .lookupswitch d ps => gjp pc d && ps.toList.all (fun q => gjp pc q.2) && (ps.toList.zip (ps.toList.drop 1)).all (fun (a, next) => decide (a.1 < next.1))
  | .bipush n => decide ((Int8.ofInt n).toInt32 = gci n)
  | .sipush n => decide ((Int16.ofInt n).toInt32 = gci n)
  | .iconst n => decide (Int32.ofInt n = gci n)
  | .iinc _ n => decide (Int32.ofInt n = gci n)
  | _ => true
def gchk (cc : ByteArray) (pc : Nat) (q : Instr × Nat) : Bool := decide (decode cc pc = .ok (q.1, q.2)) && (gln q.1 == 0 || gln q.1 == q.2) && gjok pc q.1
def gokl (cc : ByteArray) : Nat → List (Instr × Nat) → Bool
  | _, [] => true
  | pc, q :: cs => gchk cc pc q && gokl cc (pc + q.2) cs
theorem gtg_eq {pc : Nat} {off : Int} (h : gjp pc off = true) : (pc : Int) + off = ((gtg pc off : Nat) : Int) := by
  have := of_decide_eq_true h
  unfold gtg
  omega
def gWx (p : Program) (l : Launch) (e : Env) (R : Room) (s : State) (m : MethodId) (args : Array Value) (below : List Frame) (meth : Method) (c : Code) (cells slots : Nat) (Q : State → Prop) (G : gG) (A : Nat → Prop) (nL : Nat) : gK := fun pc L st σ => gvs st → gvl L → ∀ (H : Heap) (locs : List Loc) (ls : Array Slot), va_P G.2.2.1 gCl (gW G σ) H → va_S A s.heap H locs → gLH G ls nL L → W p l e R s m args below meth c H locs cells slots Q (F0 m pc ls (st.map (gv G)))
def gEv (p : Program) (R : Room) (s : State) (m : MethodId) (args : Array Value) (c : Code) (G : gG) (A : Nat → Prop) (o : Nat) (cc : ByteArray) (nL d cells slots : Nat) : Prop :=
  p.tables.exec = Jvm.exec ∧ c.code = cc ∧ c.maxLocals = nL ∧ s.vm.findClass (gcn o) = some m.cls ∧ (∀ w ∈ gWs, w.before args s = true) ∧ va_K G.2.2.1 gCl (gTy G) s ∧ gSt G A s s.heap ∧ gGok G A ∧ G.2.2.2.category = 1 ∧ (d + 1 ≤ R.frames ∧ 64 * d + 60 ≤ R.locals) ∧ cells ≤ R.cells ∧ slots ≤ R.slots
theorem gsw_at {x : Int} {k : Int → Prop} : ∀ {lo : Int} {offs : List Int}, gsw x lo k offs → ∀ {off : Int}, lo ≤ x → offs[(x - lo).toNat]? = some off → k off
  | lo, [], _, off, _, h2 => by simp at h2
  | lo, a :: r, h, off, h1, h2 => by
    by_cases hx : x = lo
    · subst hx
      have hz : (x - x).toNat = 0 := by omega
      rw [hz, List.getElem?_cons_zero] at h2
      cases h2
      exact h.1 rfl
    · have hz : (x - lo).toNat = (x - (lo + 1)).toNat + 1 := by omega
      rw [hz, List.getElem?_cons_succ] at h2
      exact gsw_at h.2 (by omega) h2

section SND
variable {p : Program} {l : Launch} {e : Env} {R : Room} {s : State} {m : MethodId} {args : Array Value} {below : List Frame} {meth : Method} {c : Code} {cells slots : Nat} {Q : State → Prop} {G : gG} {A : Nat → Prop} {nL o d : Nat} {cc : ByteArray} {rt : Option FieldType} {post : Option gAV → gT → Prop} {pc : Nat} {L : gLo} {st : gSk} {σ : gT} {kn : gLo → gSk → gT → Prop} {kj : gK}
theorem s_iload_n {n : Fin 4} (E : gEv p R s m args c G A o cc nL d cells slots) (hd : decode cc pc = .ok (.iload_n n, 1)) (h : gx o rt post (gCx l G A d) pc L st σ kn kj (.iload_n n)) (Hn : ∀ L2 st2 σ2, kn L2 st2 σ2 → gWx p l e R s m args below meth c cells slots Q G A nL (pc + 1) L2 st2 σ2) : gWx p l e R s m args below meth c cells slots Q G A nL pc L st σ := by
  obtain ⟨hx, hb, hml, hown, hts, hK, hSt, hG, hcat, hR, hc1, hc2⟩ := id E
  obtain ⟨v, hv, h⟩ := p_lo_inv h
  obtain ⟨x, rfl, h⟩ := p_lI_inv h
  intro hs hl H locs ls hP hS hL
  exact lv_iload_n hx hb hd rfl (hL.2.2.2 _ _ hv) (Hn _ _ _ h ⟨trivial, hs⟩ hl H locs ls hP hS hL)
theorem s_iload {n : Nat} (E : gEv p R s m args c G A o cc nL d cells slots) (hd : decode cc pc = .ok (.iload n, 2)) (h : gx o rt post (gCx l G A d) pc L st σ kn kj (.iload n)) (Hn : ∀ L2 st2 σ2, kn L2 st2 σ2 → gWx p l e R s m args below meth c cells slots Q G A nL (pc + 2) L2 st2 σ2) : gWx p l e R s m args below meth c cells slots Q G A nL pc L st σ := by
  obtain ⟨hx, hb, hml, hown, hts, hK, hSt, hG, hcat, hR, hc1, hc2⟩ := id E
  obtain ⟨v, hv, h⟩ := p_lo_inv h
  obtain ⟨x, rfl, h⟩ := p_lI_inv h
  intro hs hl H locs ls hP hS hL
  exact lv_iload hx hb hd (hL.2.2.2 _ _ hv) (Hn _ _ _ h ⟨trivial, hs⟩ hl H locs ls hP hS hL)
theorem s_lload_n {n : Fin 4} (E : gEv p R s m args c G A o cc nL d cells slots) (hd : decode cc pc = .ok (.lload_n n, 1)) (h : gx o rt post (gCx l G A d) pc L st σ kn kj (.lload_n n)) (Hn : ∀ L2 st2 σ2, kn L2 st2 σ2 → gWx p l e R s m args below meth c cells slots Q G A nL (pc + 1) L2 st2 σ2) : gWx p l e R s m args below meth c cells slots Q G A nL pc L st σ := by
  obtain ⟨hx, hb, hml, hown, hts, hK, hSt, hG, hcat, hR, hc1, hc2⟩ := id E
  obtain ⟨v, hv, h⟩ := p_lo_inv h
  obtain ⟨x, rfl, h⟩ := p_lL_inv h
  intro hs hl H locs ls hP hS hL
  exact lv_lload_n hx hb hd rfl (hL.2.2.2 _ _ hv) (Hn _ _ _ h ⟨trivial, hs⟩ hl H locs ls hP hS hL)
theorem s_lload {n : Nat} (E : gEv p R s m args c G A o cc nL d cells slots) (hd : decode cc pc = .ok (.lload n, 2)) (h : gx o rt post (gCx l G A d) pc L st σ kn kj (.lload n)) (Hn : ∀ L2 st2 σ2, kn L2 st2 σ2 → gWx p l e R s m args below meth c cells slots Q G A nL (pc + 2) L2 st2 σ2) : gWx p l e R s m args below meth c cells slots Q G A nL pc L st σ := by
  obtain ⟨hx, hb, hml, hown, hts, hK, hSt, hG, hcat, hR, hc1, hc2⟩ := id E
  obtain ⟨v, hv, h⟩ := p_lo_inv h
  obtain ⟨x, rfl, h⟩ := p_lL_inv h
  intro hs hl H locs ls hP hS hL
  exact lv_lload hx hb hd (hL.2.2.2 _ _ hv) (Hn _ _ _ h ⟨trivial, hs⟩ hl H locs ls hP hS hL)
theorem s_aload_n {n : Fin 4} (E : gEv p R s m args c G A o cc nL d cells slots) (hd : decode cc pc = .ok (.aload_n n, 1)) (h : gx o rt post (gCx l G A d) pc L st σ kn kj (.aload_n n)) (Hn : ∀ L2 st2 σ2, kn L2 st2 σ2 → gWx p l e R s m args below meth c cells slots Q G A nL (pc + 1) L2 st2 σ2) : gWx p l e R s m args below meth c cells slots Q G A nL pc L st σ := by
  obtain ⟨hx, hb, hml, hown, hts, hK, hSt, hG, hcat, hR, hc1, hc2⟩ := id E
  obtain ⟨v, hv, h⟩ := p_lo_inv h
  obtain ⟨f, i, rfl, h⟩ := p_lR_inv h
  obtain ⟨hf, h⟩ := p_nif h
  intro hs hl H locs ls hP hS hL
  have hk := Hn _ _ _ h ⟨hl _ _ hv, hs⟩ hl H locs ls hP hS hL
  have he := hL.2.2.2 _ _ hv
  rw [List.map_cons, gv_ref hf] at hk
  rw [gv_ref hf] at he
  exact lv_aload_n hx hb hd rfl he hk
theorem s_aload {n : Nat} (E : gEv p R s m args c G A o cc nL d cells slots) (hd : decode cc pc = .ok (.aload n, 2)) (h : gx o rt post (gCx l G A d) pc L st σ kn kj (.aload n)) (Hn : ∀ L2 st2 σ2, kn L2 st2 σ2 → gWx p l e R s m args below meth c cells slots Q G A nL (pc + 2) L2 st2 σ2) : gWx p l e R s m args below meth c cells slots Q G A nL pc L st σ := by
  obtain ⟨hx, hb, hml, hown, hts, hK, hSt, hG, hcat, hR, hc1, hc2⟩ := id E
  obtain ⟨v, hv, h⟩ := p_lo_inv h
  obtain ⟨f, i, rfl, h⟩ := p_lR_inv h
  obtain ⟨hf, h⟩ := p_nif h
  intro hs hl H locs ls hP hS hL
  have hk := Hn _ _ _ h ⟨hl _ _ hv, hs⟩ hl H locs ls hP hS hL
  have he := hL.2.2.2 _ _ hv
  rw [List.map_cons, gv_ref hf] at hk
  rw [gv_ref hf] at he
  exact lv_aload hx hb hd he hk
theorem s_istore_n {n : Fin 4} (E : gEv p R s m args c G A o cc nL d cells slots) (hd : decode cc pc = .ok (.istore_n n, 1)) (h : gx o rt post (gCx l G A d) pc L st σ kn kj (.istore_n n)) (Hn : ∀ L2 st2 σ2, kn L2 st2 σ2 → gWx p l e R s m args below meth c cells slots Q G A nL (pc + 1) L2 st2 σ2) : gWx p l e R s m args below meth c cells slots Q G A nL pc L st σ := by
  obtain ⟨hx, hb, hml, hown, hts, hK, hSt, hG, hcat, hR, hc1, hc2⟩ := id E
  obtain ⟨a, r, rfl, h⟩ := p_i_inv h
  obtain ⟨hn, h⟩ := p_if h
  intro hs hl H locs ls hP hS hL
  exact lv_istore_n hx hb hd rfl hL.has (by rw [← hL.2.2.1]; exact hn) rfl (fun ls2 h2 => Hn _ _ _ h hs.2 (gvl_st hl trivial) H locs ls2 hP hS (hL.st1 hcat (v := .inl a) rfl h2))
theorem s_istore {n : Nat} (E : gEv p R s m args c G A o cc nL d cells slots) (hd : decode cc pc = .ok (.istore n, 2)) (h : gx o rt post (gCx l G A d) pc L st σ kn kj (.istore n)) (Hn : ∀ L2 st2 σ2, kn L2 st2 σ2 → gWx p l e R s m args below meth c cells slots Q G A nL (pc + 2) L2 st2 σ2) : gWx p l e R s m args below meth c cells slots Q G A nL pc L st σ := by
  obtain ⟨hx, hb, hml, hown, hts, hK, hSt, hG, hcat, hR, hc1, hc2⟩ := id E
  obtain ⟨a, r, rfl, h⟩ := p_i_inv h
  obtain ⟨hn, h⟩ := p_if h
  intro hs hl H locs ls hP hS hL
  exact lv_istore hx hb hd hL.has (by rw [← hL.2.2.1]; exact hn) rfl (fun ls2 h2 => Hn _ _ _ h hs.2 (gvl_st hl trivial) H locs ls2 hP hS (hL.st1 hcat (v := .inl a) rfl h2))
theorem s_lstore_n {n : Fin 4} (E : gEv p R s m args c G A o cc nL d cells slots) (hd : decode cc pc = .ok (.lstore_n n, 1)) (h : gx o rt post (gCx l G A d) pc L st σ kn kj (.lstore_n n)) (Hn : ∀ L2 st2 σ2, kn L2 st2 σ2 → gWx p l e R s m args below meth c cells slots Q G A nL (pc + 1) L2 st2 σ2) : gWx p l e R s m args below meth c cells slots Q G A nL pc L st σ := by
  obtain ⟨hx, hb, hml, hown, hts, hK, hSt, hG, hcat, hR, hc1, hc2⟩ := id E
  obtain ⟨a, r, rfl, h⟩ := p_l_inv h
  obtain ⟨hn, h⟩ := p_if h
  intro hs hl H locs ls hP hS hL
  exact lv_lstore_n hx hb hd rfl hL.has (by rw [← hL.2.2.1]; exact hn) rfl (fun ls2 h2 => Hn _ _ _ h hs.2 (gvl_st hl trivial) H locs ls2 hP hS (hL.st2 hcat h2))
theorem s_lstore {n : Nat} (E : gEv p R s m args c G A o cc nL d cells slots) (hd : decode cc pc = .ok (.lstore n, 2)) (h : gx o rt post (gCx l G A d) pc L st σ kn kj (.lstore n)) (Hn : ∀ L2 st2 σ2, kn L2 st2 σ2 → gWx p l e R s m args below meth c cells slots Q G A nL (pc + 2) L2 st2 σ2) : gWx p l e R s m args below meth c cells slots Q G A nL pc L st σ := by
  obtain ⟨hx, hb, hml, hown, hts, hK, hSt, hG, hcat, hR, hc1, hc2⟩ := id E
  obtain ⟨a, r, rfl, h⟩ := p_l_inv h
  obtain ⟨hn, h⟩ := p_if h
  intro hs hl H locs ls hP hS hL
  exact lv_lstore hx hb hd hL.has (by rw [← hL.2.2.1]; exact hn) rfl (fun ls2 h2 => Hn _ _ _ h hs.2 (gvl_st hl trivial) H locs ls2 hP hS (hL.st2 hcat h2))
theorem s_astore_n {n : Fin 4} (E : gEv p R s m args c G A o cc nL d cells slots) (hd : decode cc pc = .ok (.astore_n n, 1)) (h : gx o rt post (gCx l G A d) pc L st σ kn kj (.astore_n n)) (Hn : ∀ L2 st2 σ2, kn L2 st2 σ2 → gWx p l e R s m args below meth c cells slots Q G A nL (pc + 1) L2 st2 σ2) : gWx p l e R s m args below meth c cells slots Q G A nL pc L st σ := by
  obtain ⟨hx, hb, hml, hown, hts, hK, hSt, hG, hcat, hR, hc1, hc2⟩ := id E
  obtain ⟨f, i, r, rfl, h⟩ := p_r_inv h
  obtain ⟨hf, h⟩ := p_nif h
  obtain ⟨hn, h⟩ := p_if h
  intro hs hl H locs ls hP hS hL
  rw [List.map_cons, gv_ref hf]
  exact lv_astore_n hx hb hd rfl hL.has (by rw [← hL.2.2.1]; exact hn) rfl (fun ls2 h2 => Hn _ _ _ h hs.2 (gvl_st hl hs.1) H locs ls2 hP hS (hL.st1 hcat (v := .inr (.inr (f, i))) rfl (by rw [gv_ref hf]; exact h2)))
theorem s_astore {n : Nat} (E : gEv p R s m args c G A o cc nL d cells slots) (hd : decode cc pc = .ok (.astore n, 2)) (h : gx o rt post (gCx l G A d) pc L st σ kn kj (.astore n)) (Hn : ∀ L2 st2 σ2, kn L2 st2 σ2 → gWx p l e R s m args below meth c cells slots Q G A nL (pc + 2) L2 st2 σ2) : gWx p l e R s m args below meth c cells slots Q G A nL pc L st σ := by
  obtain ⟨hx, hb, hml, hown, hts, hK, hSt, hG, hcat, hR, hc1, hc2⟩ := id E
  obtain ⟨f, i, r, rfl, h⟩ := p_r_inv h
  obtain ⟨hf, h⟩ := p_nif h
  obtain ⟨hn, h⟩ := p_if h
  intro hs hl H locs ls hP hS hL
  rw [List.map_cons, gv_ref hf]
  exact lv_astore hx hb hd hL.has (by rw [← hL.2.2.1]; exact hn) rfl (fun ls2 h2 => Hn _ _ _ h hs.2 (gvl_st hl hs.1) H locs ls2 hP hS (hL.st1 hcat (v := .inr (.inr (f, i))) rfl (by rw [gv_ref hf]; exact h2)))
theorem s_iinc {n : Nat} {k : Int} (E : gEv p R s m args c G A o cc nL d cells slots) (hd : decode cc pc = .ok (.iinc n k, 3)) (hj : gjok pc (.iinc n k) = true) (h : gx o rt post (gCx l G A d) pc L st σ kn kj (.iinc n k)) (Hn : ∀ L2 st2 σ2, kn L2 st2 σ2 → gWx p l e R s m args below meth c cells slots Q G A nL (pc + 3) L2 st2 σ2) : gWx p l e R s m args below meth c cells slots Q G A nL pc L st σ := by
  obtain ⟨hx, hb, hml, hown, hts, hK, hSt, hG, hcat, hR, hc1, hc2⟩ := id E
  obtain ⟨v, hv, h⟩ := p_lo_inv h
  obtain ⟨x, rfl, h⟩ := p_lI_inv h
  obtain ⟨hn, h⟩ := p_if h
  intro hs hl H locs ls hP hS hL
  obtain ⟨q, hq⟩ := List.getElem?_of_mem (gpr_mem (G := G) (L := L) (q := (n, .int x)) |>.mpr ⟨_, hv, rfl⟩)
  have hj := of_decide_eq_true hj
  exact lv_iinc hx hb hd hL.has hq (by rw [hj]) (by rw [← hL.2.2.1]; exact hn) rfl (fun ls2 h2 => Hn _ _ _ h hs (gvl_st hl trivial) H locs ls2 hP hS (hL.st1 hcat (v := .inl (x + gci k)) rfl h2))
theorem s_iconst {k : Int} (E : gEv p R s m args c G A o cc nL d cells slots) (hd : decode cc pc = .ok (.iconst k, 1)) (hj : gjok pc (.iconst k) = true) (h : gx o rt post (gCx l G A d) pc L st σ kn kj (.iconst k)) (Hn : ∀ L2 st2 σ2, kn L2 st2 σ2 → gWx p l e R s m args below meth c cells slots Q G A nL (pc + 1) L2 st2 σ2) : gWx p l e R s m args below meth c cells slots Q G A nL pc L st σ := by
  obtain ⟨hx, hb, hml, hown, hts, hK, hSt, hG, hcat, hR, hc1, hc2⟩ := id E
  intro hs hl H locs ls hP hS hL
  have hj := of_decide_eq_true hj
  exact lv_iconst hx hb hd hj (Hn _ _ _ h ⟨trivial, hs⟩ hl H locs ls hP hS hL)
theorem s_bipush {k : Int} (E : gEv p R s m args c G A o cc nL d cells slots) (hd : decode cc pc = .ok (.bipush k, 2)) (hj : gjok pc (.bipush k) = true) (h : gx o rt post (gCx l G A d) pc L st σ kn kj (.bipush k)) (Hn : ∀ L2 st2 σ2, kn L2 st2 σ2 → gWx p l e R s m args below meth c cells slots Q G A nL (pc + 2) L2 st2 σ2) : gWx p l e R s m args below meth c cells slots Q G A nL pc L st σ := by
  obtain ⟨hx, hb, hml, hown, hts, hK, hSt, hG, hcat, hR, hc1, hc2⟩ := id E
  intro hs hl H locs ls hP hS hL
  have hj := of_decide_eq_true hj
  exact lv_bipush hx hb hd hj (Hn _ _ _ h ⟨trivial, hs⟩ hl H locs ls hP hS hL)
theorem s_sipush {k : Int} (E : gEv p R s m args c G A o cc nL d cells slots) (hd : decode cc pc = .ok (.sipush k, 3)) (hj : gjok pc (.sipush k) = true) (h : gx o rt post (gCx l G A d) pc L st σ kn kj (.sipush k)) (Hn : ∀ L2 st2 σ2, kn L2 st2 σ2 → gWx p l e R s m args below meth c cells slots Q G A nL (pc + 3) L2 st2 σ2) : gWx p l e R s m args below meth c cells slots Q G A nL pc L st σ := by
  obtain ⟨hx, hb, hml, hown, hts, hK, hSt, hG, hcat, hR, hc1, hc2⟩ := id E
  intro hs hl H locs ls hP hS hL
  have hj := of_decide_eq_true hj
  exact lv_sipush hx hb hd hj (Hn _ _ _ h ⟨trivial, hs⟩ hl H locs ls hP hS hL)
theorem s_lconst {k : Fin 2} (E : gEv p R s m args c G A o cc nL d cells slots) (hd : decode cc pc = .ok (.lconst k, 1)) (h : gx o rt post (gCx l G A d) pc L st σ kn kj (.lconst k)) (Hn : ∀ L2 st2 σ2, kn L2 st2 σ2 → gWx p l e R s m args below meth c cells slots Q G A nL (pc + 1) L2 st2 σ2) : gWx p l e R s m args below meth c cells slots Q G A nL pc L st σ := by
  obtain ⟨hx, hb, hml, hown, hts, hK, hSt, hG, hcat, hR, hc1, hc2⟩ := id E
  intro hs hl H locs ls hP hS hL
  exact lv_lconst hx hb hd rfl (Hn _ _ _ h ⟨trivial, hs⟩ hl H locs ls hP hS hL)
theorem s_iadd (E : gEv p R s m args c G A o cc nL d cells slots) (hd : decode cc pc = .ok (.iadd, 1)) (h : gx o rt post (gCx l G A d) pc L st σ kn kj (.iadd)) (Hn : ∀ L2 st2 σ2, kn L2 st2 σ2 → gWx p l e R s m args below meth c cells slots Q G A nL (pc + 1) L2 st2 σ2) : gWx p l e R s m args below meth c cells slots Q G A nL pc L st σ := by
  obtain ⟨hx, hb, hml, hown, hts, hK, hSt, hG, hcat, hR, hc1, hc2⟩ := id E
  obtain ⟨a, b, r, rfl, h⟩ := p_ii_inv h
  intro hs hl H locs ls hP hS hL
  exact lv_iadd hx hb hd (Hn _ _ _ h ⟨trivial, hs.2.2⟩ hl H locs ls hP hS hL)
theorem s_isub (E : gEv p R s m args c G A o cc nL d cells slots) (hd : decode cc pc = .ok (.isub, 1)) (h : gx o rt post (gCx l G A d) pc L st σ kn kj (.isub)) (Hn : ∀ L2 st2 σ2, kn L2 st2 σ2 → gWx p l e R s m args below meth c cells slots Q G A nL (pc + 1) L2 st2 σ2) : gWx p l e R s m args below meth c cells slots Q G A nL pc L st σ := by
  obtain ⟨hx, hb, hml, hown, hts, hK, hSt, hG, hcat, hR, hc1, hc2⟩ := id E
  obtain ⟨a, b, r, rfl, h⟩ := p_ii_inv h
  intro hs hl H locs ls hP hS hL
  exact lv_isub hx hb hd (Hn _ _ _ h ⟨trivial, hs.2.2⟩ hl H locs ls hP hS hL)
theorem s_imul (E : gEv p R s m args c G A o cc nL d cells slots) (hd : decode cc pc = .ok (.imul, 1)) (h : gx o rt post (gCx l G A d) pc L st σ kn kj (.imul)) (Hn : ∀ L2 st2 σ2, kn L2 st2 σ2 → gWx p l e R s m args below meth c cells slots Q G A nL (pc + 1) L2 st2 σ2) : gWx p l e R s m args below meth c cells slots Q G A nL pc L st σ := by
  obtain ⟨hx, hb, hml, hown, hts, hK, hSt, hG, hcat, hR, hc1, hc2⟩ := id E
  obtain ⟨a, b, r, rfl, h⟩ := p_ii_inv h
  intro hs hl H locs ls hP hS hL
  exact lv_imul hx hb hd (Hn _ _ _ h ⟨trivial, hs.2.2⟩ hl H locs ls hP hS hL)
theorem s_iand (E : gEv p R s m args c G A o cc nL d cells slots) (hd : decode cc pc = .ok (.iand, 1)) (h : gx o rt post (gCx l G A d) pc L st σ kn kj (.iand)) (Hn : ∀ L2 st2 σ2, kn L2 st2 σ2 → gWx p l e R s m args below meth c cells slots Q G A nL (pc + 1) L2 st2 σ2) : gWx p l e R s m args below meth c cells slots Q G A nL pc L st σ := by
  obtain ⟨hx, hb, hml, hown, hts, hK, hSt, hG, hcat, hR, hc1, hc2⟩ := id E
  obtain ⟨a, b, r, rfl, h⟩ := p_ii_inv h
  intro hs hl H locs ls hP hS hL
  exact lv_iand hx hb hd (Hn _ _ _ h ⟨trivial, hs.2.2⟩ hl H locs ls hP hS hL)
theorem s_ior (E : gEv p R s m args c G A o cc nL d cells slots) (hd : decode cc pc = .ok (.ior, 1)) (h : gx o rt post (gCx l G A d) pc L st σ kn kj (.ior)) (Hn : ∀ L2 st2 σ2, kn L2 st2 σ2 → gWx p l e R s m args below meth c cells slots Q G A nL (pc + 1) L2 st2 σ2) : gWx p l e R s m args below meth c cells slots Q G A nL pc L st σ := by
  obtain ⟨hx, hb, hml, hown, hts, hK, hSt, hG, hcat, hR, hc1, hc2⟩ := id E
  obtain ⟨a, b, r, rfl, h⟩ := p_ii_inv h
  intro hs hl H locs ls hP hS hL
  exact lv_ior hx hb hd (Hn _ _ _ h ⟨trivial, hs.2.2⟩ hl H locs ls hP hS hL)
theorem s_ishl (E : gEv p R s m args c G A o cc nL d cells slots) (hd : decode cc pc = .ok (.ishl, 1)) (h : gx o rt post (gCx l G A d) pc L st σ kn kj (.ishl)) (Hn : ∀ L2 st2 σ2, kn L2 st2 σ2 → gWx p l e R s m args below meth c cells slots Q G A nL (pc + 1) L2 st2 σ2) : gWx p l e R s m args below meth c cells slots Q G A nL pc L st σ := by
  obtain ⟨hx, hb, hml, hown, hts, hK, hSt, hG, hcat, hR, hc1, hc2⟩ := id E
  obtain ⟨a, b, r, rfl, h⟩ := p_ii_inv h
  intro hs hl H locs ls hP hS hL
  exact lv_ishl hx hb hd (Hn _ _ _ h ⟨trivial, hs.2.2⟩ hl H locs ls hP hS hL)
theorem s_ishr (E : gEv p R s m args c G A o cc nL d cells slots) (hd : decode cc pc = .ok (.ishr, 1)) (h : gx o rt post (gCx l G A d) pc L st σ kn kj (.ishr)) (Hn : ∀ L2 st2 σ2, kn L2 st2 σ2 → gWx p l e R s m args below meth c cells slots Q G A nL (pc + 1) L2 st2 σ2) : gWx p l e R s m args below meth c cells slots Q G A nL pc L st σ := by
  obtain ⟨hx, hb, hml, hown, hts, hK, hSt, hG, hcat, hR, hc1, hc2⟩ := id E
  obtain ⟨a, b, r, rfl, h⟩ := p_ii_inv h
  intro hs hl H locs ls hP hS hL
  exact lv_ishr hx hb hd (Hn _ _ _ h ⟨trivial, hs.2.2⟩ hl H locs ls hP hS hL)
theorem s_iushr (E : gEv p R s m args c G A o cc nL d cells slots) (hd : decode cc pc = .ok (.iushr, 1)) (h : gx o rt post (gCx l G A d) pc L st σ kn kj (.iushr)) (Hn : ∀ L2 st2 σ2, kn L2 st2 σ2 → gWx p l e R s m args below meth c cells slots Q G A nL (pc + 1) L2 st2 σ2) : gWx p l e R s m args below meth c cells slots Q G A nL pc L st σ := by
  obtain ⟨hx, hb, hml, hown, hts, hK, hSt, hG, hcat, hR, hc1, hc2⟩ := id E
  obtain ⟨a, b, r, rfl, h⟩ := p_ii_inv h
  intro hs hl H locs ls hP hS hL
  exact lv_iushr hx hb hd rfl (Hn _ _ _ h ⟨trivial, hs.2.2⟩ hl H locs ls hP hS hL)
theorem s_idiv (E : gEv p R s m args c G A o cc nL d cells slots) (hd : decode cc pc = .ok (.idiv, 1)) (h : gx o rt post (gCx l G A d) pc L st σ kn kj (.idiv)) (Hn : ∀ L2 st2 σ2, kn L2 st2 σ2 → gWx p l e R s m args below meth c cells slots Q G A nL (pc + 1) L2 st2 σ2) : gWx p l e R s m args below meth c cells slots Q G A nL pc L st σ := by
  obtain ⟨hx, hb, hml, hown, hts, hK, hSt, hG, hcat, hR, hc1, hc2⟩ := id E
  obtain ⟨a, b, r, rfl, hne, h⟩ := p_ii_inv h
  intro hs hl H locs ls hP hS hL
  exact lv_idiv hx hb hd hne (Hn _ _ _ h ⟨trivial, hs.2.2⟩ hl H locs ls hP hS hL)
theorem s_irem (E : gEv p R s m args c G A o cc nL d cells slots) (hd : decode cc pc = .ok (.irem, 1)) (h : gx o rt post (gCx l G A d) pc L st σ kn kj (.irem)) (Hn : ∀ L2 st2 σ2, kn L2 st2 σ2 → gWx p l e R s m args below meth c cells slots Q G A nL (pc + 1) L2 st2 σ2) : gWx p l e R s m args below meth c cells slots Q G A nL pc L st σ := by
  obtain ⟨hx, hb, hml, hown, hts, hK, hSt, hG, hcat, hR, hc1, hc2⟩ := id E
  obtain ⟨a, b, r, rfl, hne, h⟩ := p_ii_inv h
  intro hs hl H locs ls hP hS hL
  exact lv_irem hx hb hd hne (Hn _ _ _ h ⟨trivial, hs.2.2⟩ hl H locs ls hP hS hL)
theorem s_ladd (E : gEv p R s m args c G A o cc nL d cells slots) (hd : decode cc pc = .ok (.ladd, 1)) (h : gx o rt post (gCx l G A d) pc L st σ kn kj (.ladd)) (Hn : ∀ L2 st2 σ2, kn L2 st2 σ2 → gWx p l e R s m args below meth c cells slots Q G A nL (pc + 1) L2 st2 σ2) : gWx p l e R s m args below meth c cells slots Q G A nL pc L st σ := by
  obtain ⟨hx, hb, hml, hown, hts, hK, hSt, hG, hcat, hR, hc1, hc2⟩ := id E
  obtain ⟨a, b, r, rfl, h⟩ := p_ll_inv h
  intro hs hl H locs ls hP hS hL
  exact lv_ladd hx hb hd (Hn _ _ _ h ⟨trivial, hs.2.2⟩ hl H locs ls hP hS hL)
theorem s_lsub (E : gEv p R s m args c G A o cc nL d cells slots) (hd : decode cc pc = .ok (.lsub, 1)) (h : gx o rt post (gCx l G A d) pc L st σ kn kj (.lsub)) (Hn : ∀ L2 st2 σ2, kn L2 st2 σ2 → gWx p l e R s m args below meth c cells slots Q G A nL (pc + 1) L2 st2 σ2) : gWx p l e R s m args below meth c cells slots Q G A nL pc L st σ := by
  obtain ⟨hx, hb, hml, hown, hts, hK, hSt, hG, hcat, hR, hc1, hc2⟩ := id E
  obtain ⟨a, b, r, rfl, h⟩ := p_ll_inv h
  intro hs hl H locs ls hP hS hL
  exact lv_lsub hx hb hd (Hn _ _ _ h ⟨trivial, hs.2.2⟩ hl H locs ls hP hS hL)
theorem s_lmul (E : gEv p R s m args c G A o cc nL d cells slots) (hd : decode cc pc = .ok (.lmul, 1)) (h : gx o rt post (gCx l G A d) pc L st σ kn kj (.lmul)) (Hn : ∀ L2 st2 σ2, kn L2 st2 σ2 → gWx p l e R s m args below meth c cells slots Q G A nL (pc + 1) L2 st2 σ2) : gWx p l e R s m args below meth c cells slots Q G A nL pc L st σ := by
  obtain ⟨hx, hb, hml, hown, hts, hK, hSt, hG, hcat, hR, hc1, hc2⟩ := id E
  obtain ⟨a, b, r, rfl, h⟩ := p_ll_inv h
  intro hs hl H locs ls hP hS hL
  exact lv_lmul hx hb hd (Hn _ _ _ h ⟨trivial, hs.2.2⟩ hl H locs ls hP hS hL)
theorem s_land (E : gEv p R s m args c G A o cc nL d cells slots) (hd : decode cc pc = .ok (.land, 1)) (h : gx o rt post (gCx l G A d) pc L st σ kn kj (.land)) (Hn : ∀ L2 st2 σ2, kn L2 st2 σ2 → gWx p l e R s m args below meth c cells slots Q G A nL (pc + 1) L2 st2 σ2) : gWx p l e R s m args below meth c cells slots Q G A nL pc L st σ := by
  obtain ⟨hx, hb, hml, hown, hts, hK, hSt, hG, hcat, hR, hc1, hc2⟩ := id E
  obtain ⟨a, b, r, rfl, h⟩ := p_ll_inv h
  intro hs hl H locs ls hP hS hL
  exact lv_land hx hb hd (Hn _ _ _ h ⟨trivial, hs.2.2⟩ hl H locs ls hP hS hL)
theorem s_lor (E : gEv p R s m args c G A o cc nL d cells slots) (hd : decode cc pc = .ok (.lor, 1)) (h : gx o rt post (gCx l G A d) pc L st σ kn kj (.lor)) (Hn : ∀ L2 st2 σ2, kn L2 st2 σ2 → gWx p l e R s m args below meth c cells slots Q G A nL (pc + 1) L2 st2 σ2) : gWx p l e R s m args below meth c cells slots Q G A nL pc L st σ := by
  obtain ⟨hx, hb, hml, hown, hts, hK, hSt, hG, hcat, hR, hc1, hc2⟩ := id E
  obtain ⟨a, b, r, rfl, h⟩ := p_ll_inv h
  intro hs hl H locs ls hP hS hL
  exact lv_lor hx hb hd (Hn _ _ _ h ⟨trivial, hs.2.2⟩ hl H locs ls hP hS hL)
theorem s_lcmp (E : gEv p R s m args c G A o cc nL d cells slots) (hd : decode cc pc = .ok (.lcmp, 1)) (h : gx o rt post (gCx l G A d) pc L st σ kn kj (.lcmp)) (Hn : ∀ L2 st2 σ2, kn L2 st2 σ2 → gWx p l e R s m args below meth c cells slots Q G A nL (pc + 1) L2 st2 σ2) : gWx p l e R s m args below meth c cells slots Q G A nL pc L st σ := by
  obtain ⟨hx, hb, hml, hown, hts, hK, hSt, hG, hcat, hR, hc1, hc2⟩ := id E
  obtain ⟨a, b, r, rfl, h⟩ := p_ll_inv h
  intro hs hl H locs ls hP hS hL
  exact W.lcmp hx hb hd (Hn _ _ _ h ⟨trivial, hs.2.2⟩ hl H locs ls hP hS hL)
theorem s_ldiv (E : gEv p R s m args c G A o cc nL d cells slots) (hd : decode cc pc = .ok (.ldiv, 1)) (h : gx o rt post (gCx l G A d) pc L st σ kn kj (.ldiv)) (Hn : ∀ L2 st2 σ2, kn L2 st2 σ2 → gWx p l e R s m args below meth c cells slots Q G A nL (pc + 1) L2 st2 σ2) : gWx p l e R s m args below meth c cells slots Q G A nL pc L st σ := by
  obtain ⟨hx, hb, hml, hown, hts, hK, hSt, hG, hcat, hR, hc1, hc2⟩ := id E
  obtain ⟨a, b, r, rfl, hne, h⟩ := p_ll_inv h
  intro hs hl H locs ls hP hS hL
  exact lv_ldiv hx hb hd hne (Hn _ _ _ h ⟨trivial, hs.2.2⟩ hl H locs ls hP hS hL)
theorem s_lrem (E : gEv p R s m args c G A o cc nL d cells slots) (hd : decode cc pc = .ok (.lrem, 1)) (h : gx o rt post (gCx l G A d) pc L st σ kn kj (.lrem)) (Hn : ∀ L2 st2 σ2, kn L2 st2 σ2 → gWx p l e R s m args below meth c cells slots Q G A nL (pc + 1) L2 st2 σ2) : gWx p l e R s m args below meth c cells slots Q G A nL pc L st σ := by
  obtain ⟨hx, hb, hml, hown, hts, hK, hSt, hG, hcat, hR, hc1, hc2⟩ := id E
  obtain ⟨a, b, r, rfl, hne, h⟩ := p_ll_inv h
  intro hs hl H locs ls hP hS hL
  exact lv_lrem hx hb hd hne (Hn _ _ _ h ⟨trivial, hs.2.2⟩ hl H locs ls hP hS hL)
theorem s_lshl (E : gEv p R s m args c G A o cc nL d cells slots) (hd : decode cc pc = .ok (.lshl, 1)) (h : gx o rt post (gCx l G A d) pc L st σ kn kj (.lshl)) (Hn : ∀ L2 st2 σ2, kn L2 st2 σ2 → gWx p l e R s m args below meth c cells slots Q G A nL (pc + 1) L2 st2 σ2) : gWx p l e R s m args below meth c cells slots Q G A nL pc L st σ := by
  obtain ⟨hx, hb, hml, hown, hts, hK, hSt, hG, hcat, hR, hc1, hc2⟩ := id E
  obtain ⟨a, b, r, rfl, h⟩ := p_li_inv h
  intro hs hl H locs ls hP hS hL
  exact lv_lshl hx hb hd rfl (Hn _ _ _ h ⟨trivial, hs.2.2⟩ hl H locs ls hP hS hL)
theorem s_lshr (E : gEv p R s m args c G A o cc nL d cells slots) (hd : decode cc pc = .ok (.lshr, 1)) (h : gx o rt post (gCx l G A d) pc L st σ kn kj (.lshr)) (Hn : ∀ L2 st2 σ2, kn L2 st2 σ2 → gWx p l e R s m args below meth c cells slots Q G A nL (pc + 1) L2 st2 σ2) : gWx p l e R s m args below meth c cells slots Q G A nL pc L st σ := by
  obtain ⟨hx, hb, hml, hown, hts, hK, hSt, hG, hcat, hR, hc1, hc2⟩ := id E
  obtain ⟨a, b, r, rfl, h⟩ := p_li_inv h
  intro hs hl H locs ls hP hS hL
  exact lv_lshr hx hb hd rfl (Hn _ _ _ h ⟨trivial, hs.2.2⟩ hl H locs ls hP hS hL)
theorem s_lushr (E : gEv p R s m args c G A o cc nL d cells slots) (hd : decode cc pc = .ok (.lushr, 1)) (h : gx o rt post (gCx l G A d) pc L st σ kn kj (.lushr)) (Hn : ∀ L2 st2 σ2, kn L2 st2 σ2 → gWx p l e R s m args below meth c cells slots Q G A nL (pc + 1) L2 st2 σ2) : gWx p l e R s m args below meth c cells slots Q G A nL pc L st σ := by
  obtain ⟨hx, hb, hml, hown, hts, hK, hSt, hG, hcat, hR, hc1, hc2⟩ := id E
  obtain ⟨a, b, r, rfl, h⟩ := p_li_inv h
  intro hs hl H locs ls hP hS hL
  exact lv_lushr hx hb hd rfl (Hn _ _ _ h ⟨trivial, hs.2.2⟩ hl H locs ls hP hS hL)
theorem s_i2l (E : gEv p R s m args c G A o cc nL d cells slots) (hd : decode cc pc = .ok (.i2l, 1)) (h : gx o rt post (gCx l G A d) pc L st σ kn kj (.i2l)) (Hn : ∀ L2 st2 σ2, kn L2 st2 σ2 → gWx p l e R s m args below meth c cells slots Q G A nL (pc + 1) L2 st2 σ2) : gWx p l e R s m args below meth c cells slots Q G A nL pc L st σ := by
  obtain ⟨hx, hb, hml, hown, hts, hK, hSt, hG, hcat, hR, hc1, hc2⟩ := id E
  obtain ⟨a, r, rfl, h⟩ := p_i_inv h
  intro hs hl H locs ls hP hS hL
  exact lv_i2l hx hb hd rfl (Hn _ _ _ h ⟨trivial, hs.2⟩ hl H locs ls hP hS hL)
theorem s_i2b (E : gEv p R s m args c G A o cc nL d cells slots) (hd : decode cc pc = .ok (.i2b, 1)) (h : gx o rt post (gCx l G A d) pc L st σ kn kj (.i2b)) (Hn : ∀ L2 st2 σ2, kn L2 st2 σ2 → gWx p l e R s m args below meth c cells slots Q G A nL (pc + 1) L2 st2 σ2) : gWx p l e R s m args below meth c cells slots Q G A nL pc L st σ := by
  obtain ⟨hx, hb, hml, hown, hts, hK, hSt, hG, hcat, hR, hc1, hc2⟩ := id E
  obtain ⟨a, r, rfl, h⟩ := p_i_inv h
  intro hs hl H locs ls hP hS hL
  exact lv_i2b hx hb hd rfl (Hn _ _ _ h ⟨trivial, hs.2⟩ hl H locs ls hP hS hL)
theorem s_i2s (E : gEv p R s m args c G A o cc nL d cells slots) (hd : decode cc pc = .ok (.i2s, 1)) (h : gx o rt post (gCx l G A d) pc L st σ kn kj (.i2s)) (Hn : ∀ L2 st2 σ2, kn L2 st2 σ2 → gWx p l e R s m args below meth c cells slots Q G A nL (pc + 1) L2 st2 σ2) : gWx p l e R s m args below meth c cells slots Q G A nL pc L st σ := by
  obtain ⟨hx, hb, hml, hown, hts, hK, hSt, hG, hcat, hR, hc1, hc2⟩ := id E
  obtain ⟨a, r, rfl, h⟩ := p_i_inv h
  intro hs hl H locs ls hP hS hL
  exact lv_i2s hx hb hd rfl (Hn _ _ _ h ⟨trivial, hs.2⟩ hl H locs ls hP hS hL)
theorem s_i2c (E : gEv p R s m args c G A o cc nL d cells slots) (hd : decode cc pc = .ok (.i2c, 1)) (h : gx o rt post (gCx l G A d) pc L st σ kn kj (.i2c)) (Hn : ∀ L2 st2 σ2, kn L2 st2 σ2 → gWx p l e R s m args below meth c cells slots Q G A nL (pc + 1) L2 st2 σ2) : gWx p l e R s m args below meth c cells slots Q G A nL pc L st σ := by
  obtain ⟨hx, hb, hml, hown, hts, hK, hSt, hG, hcat, hR, hc1, hc2⟩ := id E
  obtain ⟨a, r, rfl, h⟩ := p_i_inv h
  intro hs hl H locs ls hP hS hL
  exact lv_i2c hx hb hd rfl (Hn _ _ _ h ⟨trivial, hs.2⟩ hl H locs ls hP hS hL)
theorem s_ineg (E : gEv p R s m args c G A o cc nL d cells slots) (hd : decode cc pc = .ok (.ineg, 1)) (h : gx o rt post (gCx l G A d) pc L st σ kn kj (.ineg)) (Hn : ∀ L2 st2 σ2, kn L2 st2 σ2 → gWx p l e R s m args below meth c cells slots Q G A nL (pc + 1) L2 st2 σ2) : gWx p l e R s m args below meth c cells slots Q G A nL pc L st σ := by
  obtain ⟨hx, hb, hml, hown, hts, hK, hSt, hG, hcat, hR, hc1, hc2⟩ := id E
  obtain ⟨a, r, rfl, h⟩ := p_i_inv h
  intro hs hl H locs ls hP hS hL
  exact lv_ineg hx hb hd (Hn _ _ _ h ⟨trivial, hs.2⟩ hl H locs ls hP hS hL)
theorem s_lneg (E : gEv p R s m args c G A o cc nL d cells slots) (hd : decode cc pc = .ok (.lneg, 1)) (h : gx o rt post (gCx l G A d) pc L st σ kn kj (.lneg)) (Hn : ∀ L2 st2 σ2, kn L2 st2 σ2 → gWx p l e R s m args below meth c cells slots Q G A nL (pc + 1) L2 st2 σ2) : gWx p l e R s m args below meth c cells slots Q G A nL pc L st σ := by
  obtain ⟨hx, hb, hml, hown, hts, hK, hSt, hG, hcat, hR, hc1, hc2⟩ := id E
  obtain ⟨a, r, rfl, h⟩ := p_l_inv h
  intro hs hl H locs ls hP hS hL
  exact lv_lneg hx hb hd (Hn _ _ _ h ⟨trivial, hs.2⟩ hl H locs ls hP hS hL)
theorem s_l2i (E : gEv p R s m args c G A o cc nL d cells slots) (hd : decode cc pc = .ok (.l2i, 1)) (h : gx o rt post (gCx l G A d) pc L st σ kn kj (.l2i)) (Hn : ∀ L2 st2 σ2, kn L2 st2 σ2 → gWx p l e R s m args below meth c cells slots Q G A nL (pc + 1) L2 st2 σ2) : gWx p l e R s m args below meth c cells slots Q G A nL pc L st σ := by
  obtain ⟨hx, hb, hml, hown, hts, hK, hSt, hG, hcat, hR, hc1, hc2⟩ := id E
  obtain ⟨a, r, rfl, h⟩ := p_l_inv h
  intro hs hl H locs ls hP hS hL
  exact lv_l2i hx hb hd rfl (Hn _ _ _ h ⟨trivial, hs.2⟩ hl H locs ls hP hS hL)
theorem s_dup (E : gEv p R s m args c G A o cc nL d cells slots) (hd : decode cc pc = .ok (.dup, 1)) (h : gx o rt post (gCx l G A d) pc L st σ kn kj (.dup)) (Hn : ∀ L2 st2 σ2, kn L2 st2 σ2 → gWx p l e R s m args below meth c cells slots Q G A nL (pc + 1) L2 st2 σ2) : gWx p l e R s m args below meth c cells slots Q G A nL pc L st σ := by
  obtain ⟨hx, hb, hml, hown, hts, hK, hSt, hG, hcat, hR, hc1, hc2⟩ := id E
  obtain ⟨v, r, rfl, h⟩ := p_v_inv h
  obtain ⟨hc, h⟩ := p_if h
  intro hs hl H locs ls hP hS hL
  exact lv_dup hx hb hd ((gv_cat hcat v).trans hc) (Hn _ _ _ h ⟨hs.1, hs⟩ hl H locs ls hP hS hL)
theorem s_pop (E : gEv p R s m args c G A o cc nL d cells slots) (hd : decode cc pc = .ok (.pop, 1)) (h : gx o rt post (gCx l G A d) pc L st σ kn kj (.pop)) (Hn : ∀ L2 st2 σ2, kn L2 st2 σ2 → gWx p l e R s m args below meth c cells slots Q G A nL (pc + 1) L2 st2 σ2) : gWx p l e R s m args below meth c cells slots Q G A nL pc L st σ := by
  obtain ⟨hx, hb, hml, hown, hts, hK, hSt, hG, hcat, hR, hc1, hc2⟩ := id E
  obtain ⟨v, r, rfl, h⟩ := p_v_inv h
  obtain ⟨hc, h⟩ := p_if h
  intro hs hl H locs ls hP hS hL
  exact lv_pop hx hb hd ((gv_cat hcat v).trans hc) (Hn _ _ _ h hs.2 hl H locs ls hP hS hL)
theorem s_dup2 (E : gEv p R s m args c G A o cc nL d cells slots) (hd : decode cc pc = .ok (.dup2, 1)) (h : gx o rt post (gCx l G A d) pc L st σ kn kj (.dup2)) (Hn : ∀ L2 st2 σ2, kn L2 st2 σ2 → gWx p l e R s m args below meth c cells slots Q G A nL (pc + 1) L2 st2 σ2) : gWx p l e R s m args below meth c cells slots Q G A nL pc L st σ := by
  obtain ⟨hx, hb, hml, hown, hts, hK, hSt, hG, hcat, hR, hc1, hc2⟩ := id E
  obtain ⟨f, i, j, r, rfl, h⟩ := p_ri_inv h
  obtain ⟨hf, h⟩ := p_nif h
  intro hs hl H locs ls hP hS hL
  exact lv_dup2_11 hx hb hd rfl (gv_cat hcat (.inr (.inr (f, i)))) (Hn _ _ _ h ⟨trivial, hs.2.1, trivial, hs.2.1, hs.2.2⟩ hl H locs ls hP hS hL)
theorem s_goto {off : Int} (E : gEv p R s m args c G A o cc nL d cells slots) (hd : decode cc pc = .ok (.goto off, 3)) (hj : gjok pc (.goto off) = true) (h : gx o rt post (gCx l G A d) pc L st σ kn kj (.goto off)) (Hn : ∀ L2 st2 σ2, kn L2 st2 σ2 → gWx p l e R s m args below meth c cells slots Q G A nL (pc + 3) L2 st2 σ2) (Hj : ∀ pc2 L2 st2 σ2, kj pc2 L2 st2 σ2 → gWx p l e R s m args below meth c cells slots Q G A nL pc2 L2 st2 σ2) : gWx p l e R s m args below meth c cells slots Q G A nL pc L st σ := by
  obtain ⟨hx, hb, hml, hown, hts, hK, hSt, hG, hcat, hR, hc1, hc2⟩ := id E
  intro hs hl H locs ls hP hS hL
  exact lv_goto hx hb hd (gtg_eq hj) (Hj _ _ _ _ h hs hl H locs ls hP hS hL)
theorem s_if_eq {off : Int} (E : gEv p R s m args c G A o cc nL d cells slots) (hd : decode cc pc = .ok (.ifCond .eq off, 3)) (hj : gjok pc (.ifCond .eq off) = true) (h : gx o rt post (gCx l G A d) pc L st σ kn kj (.ifCond .eq off)) (Hn : ∀ L2 st2 σ2, kn L2 st2 σ2 → gWx p l e R s m args below meth c cells slots Q G A nL (pc + 3) L2 st2 σ2) (Hj : ∀ pc2 L2 st2 σ2, kj pc2 L2 st2 σ2 → gWx p l e R s m args below meth c cells slots Q G A nL pc2 L2 st2 σ2) : gWx p l e R s m args below meth c cells slots Q G A nL pc L st σ := by
  obtain ⟨hx, hb, hml, hown, hts, hK, hSt, hG, hcat, hR, hc1, hc2⟩ := id E
  obtain ⟨a, r, rfl, h⟩ := p_i_inv h
  intro hs hl H locs ls hP hS hL
  exact lv_if_eq hx hb hd (gtg_eq hj) (fun q => Hj _ _ _ _ (h.1 q) hs.2 hl H locs ls hP hS hL) (fun q => Hn _ _ _ (h.2 q) hs.2 hl H locs ls hP hS hL)
theorem s_icmp_eq {off : Int} (E : gEv p R s m args c G A o cc nL d cells slots) (hd : decode cc pc = .ok (.if_icmp .eq off, 3)) (hj : gjok pc (.if_icmp .eq off) = true) (h : gx o rt post (gCx l G A d) pc L st σ kn kj (.if_icmp .eq off)) (Hn : ∀ L2 st2 σ2, kn L2 st2 σ2 → gWx p l e R s m args below meth c cells slots Q G A nL (pc + 3) L2 st2 σ2) (Hj : ∀ pc2 L2 st2 σ2, kj pc2 L2 st2 σ2 → gWx p l e R s m args below meth c cells slots Q G A nL pc2 L2 st2 σ2) : gWx p l e R s m args below meth c cells slots Q G A nL pc L st σ := by
  obtain ⟨hx, hb, hml, hown, hts, hK, hSt, hG, hcat, hR, hc1, hc2⟩ := id E
  obtain ⟨a, b, r, rfl, h⟩ := p_ii_inv h
  intro hs hl H locs ls hP hS hL
  exact lv_icmp_eq hx hb hd (gtg_eq hj) (fun q => Hj _ _ _ _ (h.1 q) hs.2.2 hl H locs ls hP hS hL) (fun q => Hn _ _ _ (h.2 q) hs.2.2 hl H locs ls hP hS hL)
theorem s_if_ne {off : Int} (E : gEv p R s m args c G A o cc nL d cells slots) (hd : decode cc pc = .ok (.ifCond .ne off, 3)) (hj : gjok pc (.ifCond .ne off) = true) (h : gx o rt post (gCx l G A d) pc L st σ kn kj (.ifCond .ne off)) (Hn : ∀ L2 st2 σ2, kn L2 st2 σ2 → gWx p l e R s m args below meth c cells slots Q G A nL (pc + 3) L2 st2 σ2) (Hj : ∀ pc2 L2 st2 σ2, kj pc2 L2 st2 σ2 → gWx p l e R s m args below meth c cells slots Q G A nL pc2 L2 st2 σ2) : gWx p l e R s m args below meth c cells slots Q G A nL pc L st σ := by
  obtain ⟨hx, hb, hml, hown, hts, hK, hSt, hG, hcat, hR, hc1, hc2⟩ := id E
  obtain ⟨a, r, rfl, h⟩ := p_i_inv h
  intro hs hl H locs ls hP hS hL
  exact lv_if_ne hx hb hd (gtg_eq hj) (fun q => Hj _ _ _ _ (h.1 q) hs.2 hl H locs ls hP hS hL) (fun q => Hn _ _ _ (h.2 q) hs.2 hl H locs ls hP hS hL)
theorem s_icmp_ne {off : Int} (E : gEv p R s m args c G A o cc nL d cells slots) (hd : decode cc pc = .ok (.if_icmp .ne off, 3)) (hj : gjok pc (.if_icmp .ne off) = true) (h : gx o rt post (gCx l G A d) pc L st σ kn kj (.if_icmp .ne off)) (Hn : ∀ L2 st2 σ2, kn L2 st2 σ2 → gWx p l e R s m args below meth c cells slots Q G A nL (pc + 3) L2 st2 σ2) (Hj : ∀ pc2 L2 st2 σ2, kj pc2 L2 st2 σ2 → gWx p l e R s m args below meth c cells slots Q G A nL pc2 L2 st2 σ2) : gWx p l e R s m args below meth c cells slots Q G A nL pc L st σ := by
  obtain ⟨hx, hb, hml, hown, hts, hK, hSt, hG, hcat, hR, hc1, hc2⟩ := id E
  obtain ⟨a, b, r, rfl, h⟩ := p_ii_inv h
  intro hs hl H locs ls hP hS hL
  exact lv_icmp_ne hx hb hd (gtg_eq hj) (fun q => Hj _ _ _ _ (h.1 q) hs.2.2 hl H locs ls hP hS hL) (fun q => Hn _ _ _ (h.2 q) hs.2.2 hl H locs ls hP hS hL)
theorem s_if_lt {off : Int} (E : gEv p R s m args c G A o cc nL d cells slots) (hd : decode cc pc = .ok (.ifCond .lt off, 3)) (hj : gjok pc (.ifCond .lt off) = true) (h : gx o rt post (gCx l G A d) pc L st σ kn kj (.ifCond .lt off)) (Hn : ∀ L2 st2 σ2, kn L2 st2 σ2 → gWx p l e R s m args below meth c cells slots Q G A nL (pc + 3) L2 st2 σ2) (Hj : ∀ pc2 L2 st2 σ2, kj pc2 L2 st2 σ2 → gWx p l e R s m args below meth c cells slots Q G A nL pc2 L2 st2 σ2) : gWx p l e R s m args below meth c cells slots Q G A nL pc L st σ := by
  obtain ⟨hx, hb, hml, hown, hts, hK, hSt, hG, hcat, hR, hc1, hc2⟩ := id E
  obtain ⟨a, r, rfl, h⟩ := p_i_inv h
  intro hs hl H locs ls hP hS hL
  exact lv_if_lt hx hb hd (gtg_eq hj) (fun q => Hj _ _ _ _ (h.1 q) hs.2 hl H locs ls hP hS hL) (fun q => Hn _ _ _ (h.2 q) hs.2 hl H locs ls hP hS hL)
theorem s_icmp_lt {off : Int} (E : gEv p R s m args c G A o cc nL d cells slots) (hd : decode cc pc = .ok (.if_icmp .lt off, 3)) (hj : gjok pc (.if_icmp .lt off) = true) (h : gx o rt post (gCx l G A d) pc L st σ kn kj (.if_icmp .lt off)) (Hn : ∀ L2 st2 σ2, kn L2 st2 σ2 → gWx p l e R s m args below meth c cells slots Q G A nL (pc + 3) L2 st2 σ2) (Hj : ∀ pc2 L2 st2 σ2, kj pc2 L2 st2 σ2 → gWx p l e R s m args below meth c cells slots Q G A nL pc2 L2 st2 σ2) : gWx p l e R s m args below meth c cells slots Q G A nL pc L st σ := by
  obtain ⟨hx, hb, hml, hown, hts, hK, hSt, hG, hcat, hR, hc1, hc2⟩ := id E
  obtain ⟨a, b, r, rfl, h⟩ := p_ii_inv h
  intro hs hl H locs ls hP hS hL
  exact lv_icmp_lt hx hb hd (gtg_eq hj) (fun q => Hj _ _ _ _ (h.1 q) hs.2.2 hl H locs ls hP hS hL) (fun q => Hn _ _ _ (h.2 q) hs.2.2 hl H locs ls hP hS hL)
theorem s_if_ge {off : Int} (E : gEv p R s m args c G A o cc nL d cells slots) (hd : decode cc pc = .ok (.ifCond .ge off, 3)) (hj : gjok pc (.ifCond .ge off) = true) (h : gx o rt post (gCx l G A d) pc L st σ kn kj (.ifCond .ge off)) (Hn : ∀ L2 st2 σ2, kn L2 st2 σ2 → gWx p l e R s m args below meth c cells slots Q G A nL (pc + 3) L2 st2 σ2) (Hj : ∀ pc2 L2 st2 σ2, kj pc2 L2 st2 σ2 → gWx p l e R s m args below meth c cells slots Q G A nL pc2 L2 st2 σ2) : gWx p l e R s m args below meth c cells slots Q G A nL pc L st σ := by
  obtain ⟨hx, hb, hml, hown, hts, hK, hSt, hG, hcat, hR, hc1, hc2⟩ := id E
  obtain ⟨a, r, rfl, h⟩ := p_i_inv h
  intro hs hl H locs ls hP hS hL
  exact lv_if_ge hx hb hd (gtg_eq hj) (fun q => Hj _ _ _ _ (h.1 q) hs.2 hl H locs ls hP hS hL) (fun q => Hn _ _ _ (h.2 q) hs.2 hl H locs ls hP hS hL)
theorem s_icmp_ge {off : Int} (E : gEv p R s m args c G A o cc nL d cells slots) (hd : decode cc pc = .ok (.if_icmp .ge off, 3)) (hj : gjok pc (.if_icmp .ge off) = true) (h : gx o rt post (gCx l G A d) pc L st σ kn kj (.if_icmp .ge off)) (Hn : ∀ L2 st2 σ2, kn L2 st2 σ2 → gWx p l e R s m args below meth c cells slots Q G A nL (pc + 3) L2 st2 σ2) (Hj : ∀ pc2 L2 st2 σ2, kj pc2 L2 st2 σ2 → gWx p l e R s m args below meth c cells slots Q G A nL pc2 L2 st2 σ2) : gWx p l e R s m args below meth c cells slots Q G A nL pc L st σ := by
  obtain ⟨hx, hb, hml, hown, hts, hK, hSt, hG, hcat, hR, hc1, hc2⟩ := id E
  obtain ⟨a, b, r, rfl, h⟩ := p_ii_inv h
  intro hs hl H locs ls hP hS hL
  exact lv_icmp_ge hx hb hd (gtg_eq hj) (fun q => Hj _ _ _ _ (h.1 q) hs.2.2 hl H locs ls hP hS hL) (fun q => Hn _ _ _ (h.2 q) hs.2.2 hl H locs ls hP hS hL)
theorem s_if_gt {off : Int} (E : gEv p R s m args c G A o cc nL d cells slots) (hd : decode cc pc = .ok (.ifCond .gt off, 3)) (hj : gjok pc (.ifCond .gt off) = true) (h : gx o rt post (gCx l G A d) pc L st σ kn kj (.ifCond .gt off)) (Hn : ∀ L2 st2 σ2, kn L2 st2 σ2 → gWx p l e R s m args below meth c cells slots Q G A nL (pc + 3) L2 st2 σ2) (Hj : ∀ pc2 L2 st2 σ2, kj pc2 L2 st2 σ2 → gWx p l e R s m args below meth c cells slots Q G A nL pc2 L2 st2 σ2) : gWx p l e R s m args below meth c cells slots Q G A nL pc L st σ := by
  obtain ⟨hx, hb, hml, hown, hts, hK, hSt, hG, hcat, hR, hc1, hc2⟩ := id E
  obtain ⟨a, r, rfl, h⟩ := p_i_inv h
  intro hs hl H locs ls hP hS hL
  exact lv_if_gt hx hb hd (gtg_eq hj) (fun q => Hj _ _ _ _ (h.1 q) hs.2 hl H locs ls hP hS hL) (fun q => Hn _ _ _ (h.2 q) hs.2 hl H locs ls hP hS hL)
theorem s_icmp_gt {off : Int} (E : gEv p R s m args c G A o cc nL d cells slots) (hd : decode cc pc = .ok (.if_icmp .gt off, 3)) (hj : gjok pc (.if_icmp .gt off) = true) (h : gx o rt post (gCx l G A d) pc L st σ kn kj (.if_icmp .gt off)) (Hn : ∀ L2 st2 σ2, kn L2 st2 σ2 → gWx p l e R s m args below meth c cells slots Q G A nL (pc + 3) L2 st2 σ2) (Hj : ∀ pc2 L2 st2 σ2, kj pc2 L2 st2 σ2 → gWx p l e R s m args below meth c cells slots Q G A nL pc2 L2 st2 σ2) : gWx p l e R s m args below meth c cells slots Q G A nL pc L st σ := by
  obtain ⟨hx, hb, hml, hown, hts, hK, hSt, hG, hcat, hR, hc1, hc2⟩ := id E
  obtain ⟨a, b, r, rfl, h⟩ := p_ii_inv h
  intro hs hl H locs ls hP hS hL
  exact lv_icmp_gt hx hb hd (gtg_eq hj) (fun q => Hj _ _ _ _ (h.1 q) hs.2.2 hl H locs ls hP hS hL) (fun q => Hn _ _ _ (h.2 q) hs.2.2 hl H locs ls hP hS hL)
theorem s_if_le {off : Int} (E : gEv p R s m args c G A o cc nL d cells slots) (hd : decode cc pc = .ok (.ifCond .le off, 3)) (hj : gjok pc (.ifCond .le off) = true) (h : gx o rt post (gCx l G A d) pc L st σ kn kj (.ifCond .le off)) (Hn : ∀ L2 st2 σ2, kn L2 st2 σ2 → gWx p l e R s m args below meth c cells slots Q G A nL (pc + 3) L2 st2 σ2) (Hj : ∀ pc2 L2 st2 σ2, kj pc2 L2 st2 σ2 → gWx p l e R s m args below meth c cells slots Q G A nL pc2 L2 st2 σ2) : gWx p l e R s m args below meth c cells slots Q G A nL pc L st σ := by
  obtain ⟨hx, hb, hml, hown, hts, hK, hSt, hG, hcat, hR, hc1, hc2⟩ := id E
  obtain ⟨a, r, rfl, h⟩ := p_i_inv h
  intro hs hl H locs ls hP hS hL
  exact lv_if_le hx hb hd (gtg_eq hj) (fun q => Hj _ _ _ _ (h.1 q) hs.2 hl H locs ls hP hS hL) (fun q => Hn _ _ _ (h.2 q) hs.2 hl H locs ls hP hS hL)
theorem s_icmp_le {off : Int} (E : gEv p R s m args c G A o cc nL d cells slots) (hd : decode cc pc = .ok (.if_icmp .le off, 3)) (hj : gjok pc (.if_icmp .le off) = true) (h : gx o rt post (gCx l G A d) pc L st σ kn kj (.if_icmp .le off)) (Hn : ∀ L2 st2 σ2, kn L2 st2 σ2 → gWx p l e R s m args below meth c cells slots Q G A nL (pc + 3) L2 st2 σ2) (Hj : ∀ pc2 L2 st2 σ2, kj pc2 L2 st2 σ2 → gWx p l e R s m args below meth c cells slots Q G A nL pc2 L2 st2 σ2) : gWx p l e R s m args below meth c cells slots Q G A nL pc L st σ := by
  obtain ⟨hx, hb, hml, hown, hts, hK, hSt, hG, hcat, hR, hc1, hc2⟩ := id E
  obtain ⟨a, b, r, rfl, h⟩ := p_ii_inv h
  intro hs hl H locs ls hP hS hL
  exact lv_icmp_le hx hb hd (gtg_eq hj) (fun q => Hj _ _ _ _ (h.1 q) hs.2.2 hl H locs ls hP hS hL) (fun q => Hn _ _ _ (h.2 q) hs.2.2 hl H locs ls hP hS hL)
theorem s_table {dd lo hi : Int} {offs : Array Int} {n : Nat} (E : gEv p R s m args c G A o cc nL d cells slots) (hd : decode cc pc = .ok (.tableswitch dd lo hi offs, n)) (hj : gjok pc (.tableswitch dd lo hi offs) = true) (h : gx o rt post (gCx l G A d) pc L st σ kn kj (.tableswitch dd lo hi offs)) (Hn : ∀ L2 st2 σ2, kn L2 st2 σ2 → gWx p l e R s m args below meth c cells slots Q G A nL (pc + n) L2 st2 σ2) (Hj : ∀ pc2 L2 st2 σ2, kj pc2 L2 st2 σ2 → gWx p l e R s m args below meth c cells slots Q G A nL pc2 L2 st2 σ2) : gWx p l e R s m args below meth c cells slots Q G A nL pc L st σ := by
  obtain ⟨hx, hb, hml, hown, hts, hK, hSt, hG, hcat, hR, hc1, hc2⟩ := id E
  obtain ⟨a, r, rfl, h0, h⟩ := p_i_inv h
  intro hs hl H locs ls hP hS hL
  unfold gjok at hj
  rw [Bool.and_eq_true, Bool.and_eq_true] at hj
  obtain ⟨⟨hj1, hj2⟩, hj3⟩ := hj
  have hj3 := of_decide_eq_true hj3
  by_cases hz : a.toInt < lo ∨ hi < a.toInt
  · exact lv_tableOut hx hb hd hz (gtg_eq hj1) (Hj _ _ _ _ (h0 hz) hs.2 hl H locs ls hP hS hL)
  · have h1 : ¬ a.toInt < lo := fun q => hz (Or.inl q)
    have h2 : ¬ hi < a.toInt := fun q => hz (Or.inr q)
    have hlt : (a.toInt - lo).toNat < offs.toList.length := by omega
    obtain ⟨off, hoff⟩ : ∃ off, offs.toList[(a.toInt - lo).toNat]? = some off := ⟨_, List.getElem?_eq_getElem hlt⟩
    exact lv_tableIn hx hb hd h1 h2 (by rw [← Array.getElem?_toList]; exact hoff) (gtg_eq (List.all_eq_true.mp hj2 off (List.mem_of_getElem? hoff))) (Hj _ _ _ _ (gsw_at h (by omega) hoff) hs.2 hl H locs ls hP hS hL)

theorem glk_at {x d : Int} {k : Int → Prop} : ∀ {ps : List (Int × Int)}, glk x d k ps → k (Op.lookupswitch.offset ps d x)
  | [], h => h
  | q :: r, h => by
    obtain ⟨a, b⟩ := q
    by_cases hx : x = a
    · have e : Op.lookupswitch.offset ((a, b) :: r) d x = b := by simp [Op.lookupswitch.offset, hx]
      rw [e]
      exact h.1 hx
    · have e : Op.lookupswitch.offset ((a, b) :: r) d x = Op.lookupswitch.offset r d x := by
        simp only [Op.lookupswitch.offset]
        rw [if_neg (fun z => hx (Eq.symm z))]
      rw [e]
      exact glk_at (h.2 hx)
theorem glk_in {x d : Int} {pc : Nat} : ∀ {ps : List (Int × Int)}, gjp pc d = true → ps.all (fun q => gjp pc q.2) = true → gjp pc (Op.lookupswitch.offset ps d x) = true := by
  intro ps h1 h2
  have := glk_at (x := x) (d := d) (k := fun off => gjp pc off = true) (ps := ps) ?_
  · exact this
  · induction ps with
    | nil => exact h1
    | cons q r ih =>
      rw [List.all_cons, Bool.and_eq_true] at h2
      exact ⟨fun _ => h2.1, fun _ => ih h2.2⟩
theorem s_lookup {dd : Int} {ps : Array (Int × Int)} {n : Nat} (E : gEv p R s m args c G A o cc nL d cells slots) (hd : decode cc pc = .ok (.lookupswitch dd ps, n)) (hj : gjok pc (.lookupswitch dd ps) = true) (h : gx o rt post (gCx l G A d) pc L st σ kn kj (.lookupswitch dd ps)) (Hn : ∀ L2 st2 σ2, kn L2 st2 σ2 → gWx p l e R s m args below meth c cells slots Q G A nL (pc + n) L2 st2 σ2) (Hj : ∀ pc2 L2 st2 σ2, kj pc2 L2 st2 σ2 → gWx p l e R s m args below meth c cells slots Q G A nL pc2 L2 st2 σ2) : gWx p l e R s m args below meth c cells slots Q G A nL pc L st σ := by
  obtain ⟨hx, hb, hml, hown, hts, hK, hSt, hG, hcat, hR, hc1, hc2⟩ := id E
  obtain ⟨a, r, rfl, h⟩ := p_i_inv h
  intro hs hl H locs ls hP hS hL
  unfold gjok at hj
  rw [Bool.and_eq_true, Bool.and_eq_true] at hj
  obtain ⟨⟨hj1, hj2⟩, hj3⟩ := hj
  exact lv_lookup hx hb hd hj3 rfl (gtg_eq (glk_in hj1 hj2)) (Hj _ _ _ _ (glk_at h) hs.2 hl H locs ls hP hS hL)
theorem gcs_mem {o idx : Nat} {q : Nat × gAV × Nat} (h : gcs o idx = some q) : q.1 = idx ∧ gchkC o q = true := by
  have h1 := List.mem_of_find?_eq_some h
  have h2 := List.find?_some h
  exact ⟨by simpa using h2, gCL_ok o q h1⟩
theorem gfl_mem {o idx : Nat} {q : Nat × Nat × Nat × Nat} (h : gfl o idx = some q) : q.1 = idx ∧ gchkF o q = true := by
  have h1 := List.mem_of_find?_eq_some h
  have h2 := List.find?_some h
  exact ⟨by simpa using h2, gFL_ok o q h1⟩
theorem giv_mem {o idx : Nat} {q : Nat × Nat × Nat × gMY × List Nat} (h : giv o idx = some q) : q.1 = idx ∧ q ∈ gIL o ∧ gchkI o q = true := by
  have h1 := List.mem_of_find?_eq_some h
  have h2 := List.find?_some h
  exact ⟨by simpa using h2, h1, gIL_ok o q h1⟩
theorem gss_mem {o idx : Nat} {q : Nat × Nat × Nat × Nat} (h : gss o idx = some q) : q.1 = o ∧ q.2.1 = idx ∧ q ∈ gSL := by
  have h1 := List.mem_of_find?_eq_some h
  have h2 := List.find?_some h
  simp only [Bool.and_eq_true, beq_iff_eq] at h2
  exact ⟨h2.1, h2.2, h1⟩
theorem gsr_mem {o idx : Nat} {q : Nat × Nat × Nat} (h : gsr o idx = some q) : q.1 = o ∧ q.2.1 = idx ∧ q ∈ gSRL := by
  have h1 := List.mem_of_find?_eq_some h
  have h2 := List.find?_some h
  simp only [Bool.and_eq_true, beq_iff_eq] at h2
  exact ⟨h2.1, h2.2, h1⟩
theorem s_ldc {idx : Nat} (E : gEv p R s m args c G A o cc nL d cells slots) (hd : decode cc pc = .ok (.ldc idx, 2)) (h : gx o rt post (gCx l G A d) pc L st σ kn kj (.ldc idx)) (Hn : ∀ L2 st2 σ2, kn L2 st2 σ2 → gWx p l e R s m args below meth c cells slots Q G A nL (pc + 2) L2 st2 σ2) : gWx p l e R s m args below meth c cells slots Q G A nL pc L st σ := by
  obtain ⟨hx, hb, hml, hown, hts, hK, hSt, hG, hcat, hR, hc1, hc2⟩ := id E
  intro hs hl H locs ls hP hS hL
  replace h : gldc o idx (fun v => kn L (v :: st) σ) := h
  unfold gldc at h
  split at h
  · rename_i q x p0 hq
    obtain ⟨e1, e2⟩ := gcs_mem hq
    dsimp only at e1
    subst e1
    exact lv_ldc hx hb hown (hts _ (gin_ok e2)) hd (Hn _ _ _ h ⟨trivial, hs⟩ hl H locs ls hP hS hL)
  · exact h.elim
  · split at h
    · rename_i q1 q2 k hq
      obtain ⟨e1, e2, e3⟩ := gsr_mem hq
      dsimp only at e1 e2
      subst e1; subst e2
      have hb7 := List.all_eq_true.mp gSRL_ok _ e3
      rw [Bool.and_eq_true] at hb7
      have hb8 : k < 7 := of_decide_eq_true hb7.2
      have hk := Hn _ _ _ h ⟨hb8, hs⟩ hl H locs ls hP hS hL
      rw [List.map_cons, gv_ref (f := 50) (i := k) (by decide)] at hk
      have hZ : vk_R (gcn q1) q2 (gTx k) (G.1 50 k) s := hSt.2.2.2.2.1 (q1, q2, k) e3
      exact va_ldcS hx hb hown hZ hd hk
    · exact h.elim
theorem s_ldc_w {idx : Nat} (E : gEv p R s m args c G A o cc nL d cells slots) (hd : decode cc pc = .ok (.ldc_w idx, 3)) (h : gx o rt post (gCx l G A d) pc L st σ kn kj (.ldc_w idx)) (Hn : ∀ L2 st2 σ2, kn L2 st2 σ2 → gWx p l e R s m args below meth c cells slots Q G A nL (pc + 3) L2 st2 σ2) : gWx p l e R s m args below meth c cells slots Q G A nL pc L st σ := by
  obtain ⟨hx, hb, hml, hown, hts, hK, hSt, hG, hcat, hR, hc1, hc2⟩ := id E
  intro hs hl H locs ls hP hS hL
  replace h : gldw o idx (fun v => kn L (v :: st) σ) := h
  unfold gldw at h
  split at h
  · rename_i q x p0 hq
    obtain ⟨e1, e2⟩ := gcs_mem hq
    dsimp only at e1
    subst e1
    exact lv_ldcw hx hb hown (hts _ (gin_ok e2)) hd (Hn _ _ _ h ⟨trivial, hs⟩ hl H locs ls hP hS hL)
  · exact h.elim
theorem s_ldc2_w {idx : Nat} (E : gEv p R s m args c G A o cc nL d cells slots) (hd : decode cc pc = .ok (.ldc2_w idx, 3)) (h : gx o rt post (gCx l G A d) pc L st σ kn kj (.ldc2_w idx)) (Hn : ∀ L2 st2 σ2, kn L2 st2 σ2 → gWx p l e R s m args below meth c cells slots Q G A nL (pc + 3) L2 st2 σ2) : gWx p l e R s m args below meth c cells slots Q G A nL pc L st σ := by
  obtain ⟨hx, hb, hml, hown, hts, hK, hSt, hG, hcat, hR, hc1, hc2⟩ := id E
  intro hs hl H locs ls hP hS hL
  replace h : gld2 o idx (fun v => kn L (v :: st) σ) := h
  unfold gld2 at h
  split at h
  · rename_i q x p0 hq
    obtain ⟨e1, e2⟩ := gcs_mem hq
    dsimp only at e1
    subst e1
    exact lv_ldc2 hx hb hown (hts _ (gin_ok e2)) hd (Hn _ _ _ h ⟨trivial, hs⟩ hl H locs ls hP hS hL)
  · exact h.elim
end SND
end
section
/-! SOUNDNESS, fields, rows, statics, calls -/
theorem gE_congr {G : gG} {σ σ' : gT} {f i : Nat} (h1 : ∀ c, σ'.1 f i c = σ.1 f i c) (h2 : ∀ c, σ'.2 f i c = σ.2 f i c) : gE G σ' f i = gE G σ f i := by
  have e1 : σ'.1 f i = σ.1 f i := funext h1
  have e2 : σ'.2 f i = σ.2 f i := funext h2
  unfold gE
  split
  · have : (fun j => gfv G σ' f i j ((gF f).getD j 0)) = fun j => gfv G σ f i j ((gF f).getD j 0) := by
      funext j
      unfold gfv
      rw [e1]
    rw [this]
  · rw [e1, e2]
theorem gsu_ne {σ : gT} {f i j : Nat} {x : Int32} {a b c : Nat} (h : (a, b) ≠ (f, i)) : (gsu σ f i j x).1 a b c = σ.1 a b c := by
  unfold gsu
  dsimp only
  rw [if_neg]
  rintro ⟨rfl, rfl, -⟩
  exact h rfl
theorem gsu_eq {σ : gT} {f i j : Nat} {x : Int32} : (gsu σ f i j x).1 f i = upd (σ.1 f i) j x := by
  funext c
  unfold gsu upd
  dsimp only
  by_cases h : c = j
  · rw [if_pos ⟨rfl, rfl, h⟩, if_pos h]
  · rw [if_neg (fun z => h z.2.2), if_neg h]
theorem gsl_ne {σ : gT} {f i j : Nat} {x : Int64} {a b c : Nat} (h : (a, b) ≠ (f, i)) : (gsl σ f i j x).2 a b c = σ.2 a b c := by
  unfold gsl
  dsimp only
  rw [if_neg]
  rintro ⟨rfl, rfl, -⟩
  exact h rfl
theorem gsl_eq {σ : gT} {f i j : Nat} {x : Int64} : (gsl σ f i j x).2 f i = vp_updL (σ.2 f i) j x := by
  funext c
  unfold gsl vp_updL
  dsimp only
  by_cases h : c = j
  · rw [if_pos ⟨rfl, rfl, h⟩, if_pos h]
  · rw [if_neg (fun z => h z.2.2), if_neg h]
theorem gsc_ne {σ : gT} {f i sp g k dp n : Nat} {a b c : Nat} (h : (a, b) ≠ (g, k)) : (gsc σ f i sp g k dp n).1 a b c = σ.1 a b c := by
  unfold gsc
  dsimp only
  rw [if_neg]
  rintro ⟨rfl, rfl, -⟩
  exact h rfl
theorem gsc_eq {σ : gT} {f i sp g k dp n : Nat} : (gsc σ f i sp g k dp n).1 g k = va_cpy (σ.1 f i) (σ.1 g k) sp dp n := by
  funext c
  unfold gsc va_cpy
  dsimp only
  by_cases h : dp ≤ c ∧ c < dp + n
  · rw [if_pos ⟨rfl, rfl, h⟩, if_pos h]
  · rw [if_neg (fun z => h z.2.2), if_neg h]
theorem gF_ok : ∀ ci, ci < 11 → ∀ k ∈ gF ci, 2 ≤ k → ¬ k - 2 = 52 ∧ gN ci ≤ gN (k - 2) := by decide +kernel
theorem gA_lt {f : Nat} {q : Nat × Nat × Nat} (h : gA f = some q) : f < 39 := by
  rcases Nat.lt_or_ge f 39 with z | z
  · exact z
  · obtain ⟨n, rfl⟩ : ∃ n, f = n + 39 := ⟨f - 39, by omega⟩
    cases h
theorem gA_ok : ∀ f, f < 39 → ∀ kd n g, gA f = some (kd, n, g) → kd < 6 ∧ n < 2 ^ 31 ∧ (3 ≤ kd → ¬ g = 52 ∧ n ≤ gN g) := by
  have h : ∀ f, f < 39 → ∀ q ∈ (gA f).toList, q.1 < 6 ∧ q.2.1 < 2 ^ 31 ∧ (3 ≤ q.1 → ¬ q.2.2 = 52 ∧ q.2.1 ≤ gN q.2.2) := by decide +kernel
  intro f hf kd n g hg
  exact h f hf (kd, n, g) (by rw [hg]; exact List.mem_singleton.mpr rfl)
theorem gSV_ok (f : Nat) : gSV f = [] ∨ ∃ e ∈ gSL, e.2.2.1 = f := by
  rcases Nat.lt_or_ge f 40 with z | z
  · left
    have h : ∀ f, f < 40 → gSV f = [] := by decide +kernel
    exact h f z
  · rcases Nat.lt_or_ge f 47 with y | y
    · right
      have h : ∀ f, f < 47 → 40 ≤ f → ∃ e ∈ gSL, e.2.2.1 = f := by decide +kernel
      exact h f y z
    · left
      obtain ⟨n, rfl⟩ : ∃ n, f = n + 47 := ⟨f - 47, by omega⟩
      rfl
theorem gTy_at (G : gG) : (gTy G)[0]? = some (G.2.1 0, .int) ∧ (gTy G)[1]? = some (G.2.1 1, .byte) ∧ (gTy G)[2]? = some (G.2.1 2, .long) := ⟨rfl, rfl, rfl⟩
theorem gTy_ref (G : gG) {kd : Nat} (h : kd < 3) : ∃ C, (gTy G)[kd + 3]? = some (G.2.1 (kd + 3), .object C) := match kd, h with
  | 0, _ => ⟨_, rfl⟩
  | 1, _ => ⟨_, rfl⟩
  | 2, _ => ⟨_, rfl⟩
  | n + 3, h => absurd h (by omega)
theorem gTy_any (G : gG) {kd : Nat} (h : kd < 6) : ∃ ty, (gTy G)[kd]? = some (G.2.1 kd, ty) := match kd, h with
  | 0, _ => ⟨_, rfl⟩
  | 1, _ => ⟨_, rfl⟩
  | 2, _ => ⟨_, rfl⟩
  | 3, _ => ⟨_, rfl⟩
  | 4, _ => ⟨_, rfl⟩
  | 5, _ => ⟨_, rfl⟩
  | n + 6, h => absurd h (by omega)
theorem gE_obj {G : gG} {σ : gT} {f i : Nat} (h : gA f = none) : gE G σ f i = .inr (f, (List.range (gF f).length).map (fun j => gfv G σ f i j ((gF f).getD j 0))) := by
  unfold gE
  rw [h]
theorem gfs_at {G : gG} {σ : gT} {f i j : Nat} (h : j < (gF f).length) : ((List.range (gF f).length).map (fun j => gfv G σ f i j ((gF f).getD j 0)))[j]? = some (gfv G σ f i j ((gF f).getD j 0)) := by
  rw [List.getElem?_map, List.getElem?_range h]
  rfl
section SND
variable {p : Program} {l : Launch} {e : Env} {R : Room} {s : State} {m : MethodId} {args : Array Value} {below : List Frame} {meth : Method} {c : Code} {cells slots : Nat} {Q : State → Prop} {G : gG} {A : Nat → Prop} {nL o d : Nat} {cc : ByteArray} {rt : Option FieldType} {post : Option gAV → gT → Prop} {pc : Nat} {L : gLo} {st : gSk} {σ : gT} {kn : gLo → gSk → gT → Prop} {kj : gK}
theorem s_getfield {idx : Nat} (E : gEv p R s m args c G A o cc nL d cells slots) (hd : decode cc pc = .ok (.getfield idx, 3)) (h : gx o rt post (gCx l G A d) pc L st σ kn kj (.getfield idx)) (Hn : ∀ L2 st2 σ2, kn L2 st2 σ2 → gWx p l e R s m args below meth c cells slots Q G A nL (pc + 3) L2 st2 σ2) : gWx p l e R s m args below meth c cells slots Q G A nL pc L st σ := by
  obtain ⟨hx, hb, hml, hown, hts, hK, hSt, hG, hcat, hR, hc1, hc2⟩ := id E
  have hz := p_r_inv h
  clear h
  obtain ⟨f, i, r, rfl, h⟩ := hz
  intro hs hl H locs ls hP hS hL
  unfold ggf at h
  split at h
  · rename_i q ci j p0 hq
    obtain ⟨e1, e2⟩ := gfl_mem hq
    dsimp only at e1
    subst e1
    obtain ⟨rfl, h⟩ := p_if h
    unfold gchkF at e2
    dsimp only at e2
    split at e2
    · rename_i Q0 hQ
      rw [Bool.and_eq_true, Bool.and_eq_true] at e2
      obtain ⟨⟨e3, e4⟩, e5⟩ := e2
      have e3 := of_decide_eq_true e3
      have e4 := of_decide_eq_true e4
      obtain ⟨C, T, N, ty0, hk⟩ := gclk f e4
      have hk' := hk
      obtain ⟨k1, k2, k3, k4, k5, k6, k7, k8, k9⟩ := hk'
      rw [k1] at hQ
      cases hQ
      dsimp only at e3 e5
      obtain ⟨k, q1, q2⟩ := gW_at G σ (show f < 39 by omega) hs.1
      rw [gE_obj k8] at q2
      have hjl : j < (gF f).length := by rw [k6]; exact e3
      have hgd : (gF f)[j]? = some ((gF f).getD j 0) := by
        rw [List.getD_eq_getElem?_getD, List.getElem?_eq_getElem hjl]
        rfl
      rw [List.map_cons, gv_ref (by omega)]
      refine va_get (D := G.2.2.1) (ci := f) (C := C) (T := T) (N := N) hx hb hts k3 hown hK hP k q2 k1 j e3 (hts _ (gin_ok e5)) (fun _ h9 => h9) (gfs_at hjl) hd ?_
      rw [hgd] at h
      split at h
      · rename_i h0
        rw [Option.some.inj h0]
        exact Hn _ _ _ h ⟨trivial, hs.2⟩ hl H locs ls hP hS hL
      · rename_i h0
        rw [Option.some.inj h0]
        exact Hn _ _ _ h ⟨trivial, hs.2⟩ hl H locs ls hP hS hL
      · rename_i g h0
        have h0 := Option.some.inj h0
        have hF := gF_ok f e4 _ (List.mem_of_getElem? hgd) (by omega)
        rw [h0] at hF
        have hg : g + 2 - 2 = g := by omega
        rw [hg] at hF
        have hk := Hn _ _ _ h ⟨Nat.lt_of_lt_of_le hs.1 hF.2, hs.2⟩ hl H locs ls hP hS hL
        rw [List.map_cons, gv_ref hF.1] at hk
        rw [h0]
        exact hk
      · exact h.elim
    · cases e2
  · split at h
    · have hz := p_if h
      clear h
      obtain ⟨hf50, h⟩ := hz
      subst hf50
      have hi : i < 7 := hs.1
      have hg := gstr_ok
      rw [Bool.and_eq_true, Bool.and_eq_true, Bool.and_eq_true] at hg
      rw [List.map_cons, gv_ref (by decide)]
      by_cases c1 : idx = gX_value
      · rw [if_pos c1] at h
        subst c1
        have hk := Hn _ _ _ h ⟨hi, hs.2⟩ hl H locs ls hP hS hL
        rw [List.map_cons, gv_ref (by decide)] at hk
        exact vk_getf hx hb (hSt.2.2.2.1.1 i hi).2.2.1 hS hown (hts _ (gin_ok hg.1.1.1)) (fun _ h9 => h9) hd hk
      · rw [if_neg c1] at h
        have hz := p_if h
        clear h
        obtain ⟨hfc, h⟩ := hz
        subst hfc
        exact vk_getf hx hb (hSt.2.2.2.1.1 i hi).2.1 hS hown (hts _ (gin_ok hg.1.1.2)) (fun _ h9 => h9) hd (Hn _ _ _ h ⟨trivial, hs.2⟩ hl H locs ls hP hS hL)
    · exact h.elim
theorem s_putfield {idx : Nat} (E : gEv p R s m args c G A o cc nL d cells slots) (hd : decode cc pc = .ok (.putfield idx, 3)) (h : gx o rt post (gCx l G A d) pc L st σ kn kj (.putfield idx)) (Hn : ∀ L2 st2 σ2, kn L2 st2 σ2 → gWx p l e R s m args below meth c cells slots Q G A nL (pc + 3) L2 st2 σ2) : gWx p l e R s m args below meth c cells slots Q G A nL pc L st σ := by
  obtain ⟨hx, hb, hml, hown, hts, hK, hSt, hG, hcat, hR, hc1, hc2⟩ := id E
  have hz := p_v_inv h
  clear h
  obtain ⟨v, r, rfl, h⟩ := hz
  have hz := p_lI_inv h
  clear h
  obtain ⟨x, rfl, h⟩ := hz
  have hz := p_r_inv h
  clear h
  obtain ⟨f, i, r, rfl, h⟩ := hz
  intro hs hl H locs ls hP hS hL
  unfold gpf at h
  split at h
  · rename_i q ci j p0 hq
    obtain ⟨e1, e2⟩ := gfl_mem hq
    dsimp only at e1
    subst e1
    obtain ⟨rfl, h⟩ := p_if h
    unfold gchkF at e2
    dsimp only at e2
    split at e2
    · rename_i Q0 hQ
      rw [Bool.and_eq_true, Bool.and_eq_true] at e2
      obtain ⟨⟨e3, e4⟩, e5⟩ := e2
      have e3 := of_decide_eq_true e3
      have e4 := of_decide_eq_true e4
      obtain ⟨C, T, N, ty0, hk⟩ := gclk f e4
      have hk' := hk
      obtain ⟨k1, k2, k3, k4, k5, k6, k7, k8, k9⟩ := hk'
      rw [k1] at hQ
      cases hQ
      dsimp only at e3 e5
      obtain ⟨k, q1, q2⟩ := gW_at G σ (show f < 39 by omega) hs.2.1
      rw [gE_obj k8] at q2
      have hjl : j < (gF f).length := by rw [k6]; exact e3
      have hgd : (gF f)[j]? = some ((gF f).getD j 0) := by
        rw [List.getD_eq_getElem?_getD, List.getElem?_eq_getElem hjl]
        rfl
      split at h
      · rename_i hfin
        have hfin : (T j).2.2.2 = false := by
          rw [← (k9 j e3).2.2, List.getD_eq_getElem?_getD, hfin]
          rfl
        rw [List.map_cons, List.map_cons, gv_ref (by omega)]
        rw [hgd] at h
        have key : ∀ (hkd : (gF f).getD j 0 = 0 ∨ (gF f).getD j 0 = 1) (hn : narrow (ty0 j) (.int x) = .int x) (hft : fits (ty0 j) (.int x) = true) (hk : kn L r (gsu σ f i j x)), W p l e R s m args below meth c H locs cells slots Q (F0 m pc ls (.int x :: .ref (G.1 f i) :: r.map (gv G))) := by
          intro hkd hn hft hk
          refine va_put (D := G.2.2.1) (ci := f) (ty := ty0 j) (C := C) (T := T) (N := N) hx hb hts k3 ty0 k4 k5 hown hK hP (gW_D hG σ) hS k q2 k1 j e3 (hts _ (gin_ok e5)) (fun _ h9 => h9) hfin (k4 j e3) hn hft (by rw [List.length_map, List.length_range]; exact hjl) hd (fun H1 locs1 hP1 hD1 hS1 => ?_)
          refine Hn _ _ _ hk hs.2.2 hl H1 locs1 ls (gW_set hG q1 ?_ (fun q hq => gE_congr (fun c => gsu_ne hq) (fun c => rfl)) hP1) hS1 hL
          rw [gE_obj k8]
          refine congrArg (fun z => Sum.inr (f, z)) (List.ext_getElem? fun n => ?_)
          rw [List.getElem?_set]
          by_cases hn : j = n
          · subst hn
            rw [if_pos rfl, if_pos (by rw [List.length_map, List.length_range]; exact hjl), gfs_at hjl]
            refine congrArg some ?_
            rcases hkd with z | z <;> rw [z] <;> show Value.int ((gsu σ f i j x).1 f i j) = .int x <;> rw [gsu_eq] <;> unfold upd <;> rw [if_pos rfl]
          · rw [if_neg hn, List.getElem?_map, List.getElem?_map]
            by_cases hl2 : n < (gF f).length
            · rw [List.getElem?_range hl2]
              refine congrArg some ?_
              show gfv G (gsu σ f i j x) f i n _ = gfv G σ f i n _
              unfold gfv
              rw [gsu_eq]
              unfold upd
              rw [if_neg (Ne.symm hn)]
            · rw [List.getElem?_eq_none (by rw [List.length_range]; omega)]
              rfl
        split at h
        · rename_i h0
          have h0 := Option.some.inj h0
          have ht := (k9 j e3).1 h0
          exact key (Or.inl h0) (by rw [ht]; rfl) (by rw [ht]; rfl) h
        · rename_i h0
          have h0 := Option.some.inj h0
          have ht := (k9 j e3).2.1 h0
          refine key (Or.inr h0) ?_ ?_ h.2
          · rw [ht]; rcases h.1 with rfl | rfl <;> rfl
          · rw [ht]; rcases h.1 with rfl | rfl <;> rfl
        · exact h.elim
      · exact h.elim
    · cases e2
  · exact h.elim
theorem s_iaload (E : gEv p R s m args c G A o cc nL d cells slots) (hd : decode cc pc = .ok (.iaload, 1)) (h : gx o rt post (gCx l G A d) pc L st σ kn kj (.iaload)) (Hn : ∀ L2 st2 σ2, kn L2 st2 σ2 → gWx p l e R s m args below meth c cells slots Q G A nL (pc + 1) L2 st2 σ2) : gWx p l e R s m args below meth c cells slots Q G A nL pc L st σ := by
  obtain ⟨hx, hb, hml, hown, hts, hK, hSt, hG, hcat, hR, hc1, hc2⟩ := id E
  have hz := p_ri_inv h
  clear h
  obtain ⟨f, i, j, r, rfl, h⟩ := hz
  intro hs hl H locs ls hP hS hL
  unfold gai at h
  split at h
  · rename_i kd n g hA
    have hz := p_if h
    clear h
    obtain ⟨hkd, hin, h⟩ := hz
    subst hkd
    obtain ⟨k, q1, q2⟩ := gW_at G σ (gA_lt hA) hs.2.1
    unfold gE at q2
    rw [hA] at q2
    have hf : ¬ f = 52 := by have := gA_lt hA; omega
    rw [List.map_cons, List.map_cons, gv_ref hf]
    exact va_iald hx hb hK hP k 0 q2 (gTy_at G).1 hin hd (Hn _ _ _ h ⟨trivial, hs.2.2⟩ hl H locs ls hP hS hL)
  · rename_i hA
    rw [if_pos rfl] at h
    obtain ⟨hin, h⟩ := h
    rcases gSV_ok f with hz | ⟨e0, he1, he2⟩
    · rw [hz] at hin
      exact absurd (Or.inr (Nat.zero_le _)) hin
    · subst he2
      have hb40 := List.all_eq_true.mp gSL_ok _ he1
      rw [Bool.and_eq_true] at hb40
      have hb41 := of_decide_eq_true hb40.2
      have hi : i = 0 := by
        have h1 : ∀ f, f < 47 → 40 ≤ f → gN f = 1 := by decide +kernel
        have h2 : i < gN e0.2.2.1 := hs.2.1
        rw [h1 _ hb41.2 hb41.1] at h2
        omega
      subst hi
      rw [List.map_cons, List.map_cons, gv_ref (by omega)]
      exact va_ti hx hb (hSt.1 e0 he1).2 hS hin rfl hd (Hn _ _ _ h ⟨trivial, hs.2.2⟩ hl H locs ls hP hS hL)
theorem s_baload (E : gEv p R s m args c G A o cc nL d cells slots) (hd : decode cc pc = .ok (.baload, 1)) (h : gx o rt post (gCx l G A d) pc L st σ kn kj (.baload)) (Hn : ∀ L2 st2 σ2, kn L2 st2 σ2 → gWx p l e R s m args below meth c cells slots Q G A nL (pc + 1) L2 st2 σ2) : gWx p l e R s m args below meth c cells slots Q G A nL pc L st σ := by
  obtain ⟨hx, hb, hml, hown, hts, hK, hSt, hG, hcat, hR, hc1, hc2⟩ := id E
  have hz := p_ri_inv h
  clear h
  obtain ⟨f, i, j, r, rfl, h⟩ := hz
  intro hs hl H locs ls hP hS hL
  unfold gai at h
  split at h
  · rename_i kd n g hA
    have hz := p_if h
    clear h
    obtain ⟨hkd, hin, h⟩ := hz
    subst hkd
    obtain ⟨k, q1, q2⟩ := gW_at G σ (gA_lt hA) hs.2.1
    unfold gE at q2
    rw [hA] at q2
    have hf : ¬ f = 52 := by have := gA_lt hA; omega
    rw [List.map_cons, List.map_cons, gv_ref hf]
    exact va_bald hx hb hK hP k 1 q2 (gTy_at G).2.1 hin hd (Hn _ _ _ h ⟨trivial, hs.2.2⟩ hl H locs ls hP hS hL)
  · rename_i hA
    rw [if_neg (by decide)] at h
    have hz := p_if h
    clear h
    obtain ⟨hf, hin, h⟩ := hz
    subst hf
    have hi : i < 7 := hs.2.1
    rw [List.map_cons, List.map_cons, gv_ref (by decide)]
    exact va_tb hx hb (hSt.2.2.2.1.1 i hi).2.2.2 hS hin rfl hd (Hn _ _ _ h ⟨trivial, hs.2.2⟩ hl H locs ls hP hS hL)
theorem s_laload (E : gEv p R s m args c G A o cc nL d cells slots) (hd : decode cc pc = .ok (.laload, 1)) (h : gx o rt post (gCx l G A d) pc L st σ kn kj (.laload)) (Hn : ∀ L2 st2 σ2, kn L2 st2 σ2 → gWx p l e R s m args below meth c cells slots Q G A nL (pc + 1) L2 st2 σ2) : gWx p l e R s m args below meth c cells slots Q G A nL pc L st σ := by
  obtain ⟨hx, hb, hml, hown, hts, hK, hSt, hG, hcat, hR, hc1, hc2⟩ := id E
  have hz := p_ri_inv h
  clear h
  obtain ⟨f, i, j, r, rfl, h⟩ := hz
  intro hs hl H locs ls hP hS hL
  unfold gal at h
  split at h
  · rename_i n g hA
    obtain ⟨hin, h⟩ := h
    obtain ⟨k, q1, q2⟩ := gW_at G σ (gA_lt hA) hs.2.1
    unfold gE at q2
    rw [hA] at q2
    have hf : ¬ f = 52 := by have := gA_lt hA; omega
    rw [List.map_cons, List.map_cons, gv_ref hf]
    exact va_lald hx hb hK hP k 2 q2 (gTy_at G).2.2 hin hd (Hn _ _ _ h ⟨trivial, hs.2.2⟩ hl H locs ls hP hS hL)
  · exact h.elim
theorem s_aaload (E : gEv p R s m args c G A o cc nL d cells slots) (hd : decode cc pc = .ok (.aaload, 1)) (h : gx o rt post (gCx l G A d) pc L st σ kn kj (.aaload)) (Hn : ∀ L2 st2 σ2, kn L2 st2 σ2 → gWx p l e R s m args below meth c cells slots Q G A nL (pc + 1) L2 st2 σ2) : gWx p l e R s m args below meth c cells slots Q G A nL pc L st σ := by
  obtain ⟨hx, hb, hml, hown, hts, hK, hSt, hG, hcat, hR, hc1, hc2⟩ := id E
  have hz := p_ri_inv h
  clear h
  obtain ⟨f, i, j, r, rfl, h⟩ := hz
  intro hs hl H locs ls hP hS hL
  unfold gar at h
  split at h
  · rename_i kd n g hA
    obtain ⟨hin, h⟩ := h
    obtain ⟨k, q1, q2⟩ := gW_at G σ (gA_lt hA) hs.2.1
    unfold gE at q2
    rw [hA] at q2
    have hf : ¬ f = 52 := by have := gA_lt hA; omega
    obtain ⟨a1, a2, a3⟩ := gA_ok f (gA_lt hA) _ _ _ hA
    obtain ⟨a4, a5⟩ := a3 (by omega)
    obtain ⟨C, hC⟩ := gTy_ref G (kd := kd) (by omega)
    have hlt : j.toNatClampNeg < n := Nat.not_le.mp fun q => hin (Or.inr q)
    have hk := Hn _ _ _ h ⟨Nat.lt_of_lt_of_le hlt a5, hs.2.2⟩ hl H locs ls hP hS hL
    rw [List.map_cons, gv_ref a4] at hk
    rw [List.map_cons, List.map_cons, gv_ref hf]
    exact va_aldq hx hb hK hP k (kd + 3) q2 hC hin hd hk
  · exact h.elim
theorem s_iastore (E : gEv p R s m args c G A o cc nL d cells slots) (hd : decode cc pc = .ok (.iastore, 1)) (h : gx o rt post (gCx l G A d) pc L st σ kn kj (.iastore)) (Hn : ∀ L2 st2 σ2, kn L2 st2 σ2 → gWx p l e R s m args below meth c cells slots Q G A nL (pc + 1) L2 st2 σ2) : gWx p l e R s m args below meth c cells slots Q G A nL pc L st σ := by
  obtain ⟨hx, hb, hml, hown, hts, hK, hSt, hG, hcat, hR, hc1, hc2⟩ := id E
  have hz := p_rii_inv h
  clear h
  obtain ⟨f, i, j, x, r, rfl, h⟩ := hz
  intro hs hl H locs ls hP hS hL
  unfold gasi at h
  split at h
  · rename_i n g hA
    obtain ⟨hin, h⟩ := h
    obtain ⟨k, q1, q2⟩ := gW_at G σ (gA_lt hA) hs.2.2.1
    unfold gE at q2
    rw [hA] at q2
    have hf : ¬ f = 52 := by have := gA_lt hA; omega
    rw [List.map_cons, List.map_cons, List.map_cons, gv_ref hf]
    refine va_iast hx hb hK hP (gW_D hG σ) hS k 0 q2 (gTy_at G).1 hin hd (fun H1 locs1 hP1 hD1 hS1 => ?_)
    refine Hn _ _ _ h hs.2.2.2 hl H1 locs1 ls (gW_set (σ := σ) (σ' := gsu σ f i j.toNatClampNeg x) hG q1 ?_ (fun q hq => gE_congr (fun c => gsu_ne hq) (fun c => rfl)) hP1) hS1 hL
    unfold gE
    rw [hA, gsu_eq]
    rfl
  · exact h.elim
theorem s_bastore (E : gEv p R s m args c G A o cc nL d cells slots) (hd : decode cc pc = .ok (.bastore, 1)) (h : gx o rt post (gCx l G A d) pc L st σ kn kj (.bastore)) (Hn : ∀ L2 st2 σ2, kn L2 st2 σ2 → gWx p l e R s m args below meth c cells slots Q G A nL (pc + 1) L2 st2 σ2) : gWx p l e R s m args below meth c cells slots Q G A nL pc L st σ := by
  obtain ⟨hx, hb, hml, hown, hts, hK, hSt, hG, hcat, hR, hc1, hc2⟩ := id E
  have hz := p_rii_inv h
  clear h
  obtain ⟨f, i, j, x, r, rfl, h⟩ := hz
  intro hs hl H locs ls hP hS hL
  unfold gasb at h
  split at h
  · rename_i n g hA
    obtain ⟨hin, h⟩ := h
    obtain ⟨k, q1, q2⟩ := gW_at G σ (gA_lt hA) hs.2.2.1
    unfold gE at q2
    rw [hA] at q2
    have hf : ¬ f = 52 := by have := gA_lt hA; omega
    rw [List.map_cons, List.map_cons, List.map_cons, gv_ref hf]
    refine va_bast hx hb hK hP (gW_D hG σ) hS k 1 q2 (gTy_at G).2.1 hin hd (fun H1 locs1 hP1 hD1 hS1 => ?_)
    refine Hn _ _ _ h hs.2.2.2 hl H1 locs1 ls (gW_set (σ := σ) (σ' := gsu σ f i j.toNatClampNeg (vp_nar .byte x)) hG q1 ?_ (fun q hq => gE_congr (fun c => gsu_ne hq) (fun c => rfl)) hP1) hS1 hL
    unfold gE
    rw [hA, gsu_eq]
    rfl
  · exact h.elim
theorem s_lastore (E : gEv p R s m args c G A o cc nL d cells slots) (hd : decode cc pc = .ok (.lastore, 1)) (h : gx o rt post (gCx l G A d) pc L st σ kn kj (.lastore)) (Hn : ∀ L2 st2 σ2, kn L2 st2 σ2 → gWx p l e R s m args below meth c cells slots Q G A nL (pc + 1) L2 st2 σ2) : gWx p l e R s m args below meth c cells slots Q G A nL pc L st σ := by
  obtain ⟨hx, hb, hml, hown, hts, hK, hSt, hG, hcat, hR, hc1, hc2⟩ := id E
  have hz := p_ril_inv h
  clear h
  obtain ⟨f, i, j, x, r, rfl, h⟩ := hz
  intro hs hl H locs ls hP hS hL
  unfold gasl at h
  split at h
  · rename_i n g hA
    obtain ⟨hin, h⟩ := h
    obtain ⟨k, q1, q2⟩ := gW_at G σ (gA_lt hA) hs.2.2.1
    unfold gE at q2
    rw [hA] at q2
    have hf : ¬ f = 52 := by have := gA_lt hA; omega
    rw [List.map_cons, List.map_cons, List.map_cons, gv_ref hf]
    refine va_last hx hb hK hP (gW_D hG σ) hS k 2 q2 (gTy_at G).2.2 hin hd (fun H1 locs1 hP1 hD1 hS1 => ?_)
    refine Hn _ _ _ h hs.2.2.2 hl H1 locs1 ls (gW_set (σ := σ) (σ' := gsl σ f i j.toNatClampNeg x) hG q1 ?_ (fun q hq => gE_congr (fun c => rfl) (fun c => gsl_ne hq)) hP1) hS1 hL
    unfold gE
    rw [hA, gsl_eq]
    rfl
  · exact h.elim
theorem s_arraylength (E : gEv p R s m args c G A o cc nL d cells slots) (hd : decode cc pc = .ok (.arraylength, 1)) (h : gx o rt post (gCx l G A d) pc L st σ kn kj (.arraylength)) (Hn : ∀ L2 st2 σ2, kn L2 st2 σ2 → gWx p l e R s m args below meth c cells slots Q G A nL (pc + 1) L2 st2 σ2) : gWx p l e R s m args below meth c cells slots Q G A nL pc L st σ := by
  obtain ⟨hx, hb, hml, hown, hts, hK, hSt, hG, hcat, hR, hc1, hc2⟩ := id E
  have hz := p_r_inv h
  clear h
  obtain ⟨f, i, r, rfl, h⟩ := hz
  intro hs hl H locs ls hP hS hL
  unfold gan at h
  split at h
  · rename_i kd n g hA
    obtain ⟨k, q1, q2⟩ := gW_at G σ (gA_lt hA) hs.1
    unfold gE at q2
    rw [hA] at q2
    have hf : ¬ f = 52 := by have := gA_lt hA; omega
    obtain ⟨a1, a2, a3⟩ := gA_ok f (gA_lt hA) _ _ _ hA
    obtain ⟨ty, hty⟩ := gTy_any G a1
    rw [List.map_cons, gv_ref hf]
    exact va_alen hx hb hK hP k kd q2 hty rfl hd (Hn _ _ _ h ⟨trivial, hs.2⟩ hl H locs ls hP hS hL)
  · by_cases c1 : f = 51
    · rw [if_pos c1] at h
      subst c1
      have hi : i < 7 := hs.1
      rw [List.map_cons, gv_ref (by decide)]
      exact va_tlen hx hb (hSt.2.2.2.1.1 i hi).2.2.2 hS rfl hd (Hn _ _ _ h ⟨trivial, hs.2⟩ hl H locs ls hP hS hL)
    · rw [if_neg c1] at h
      split at h
      · exact h.elim
      · rename_i a0 r0 hsv
        rcases gSV_ok f with hz | ⟨e0, he1, he2⟩
        · rw [hz] at hsv
          cases hsv
        · subst he2
          have hb40 := List.all_eq_true.mp gSL_ok _ he1
          rw [Bool.and_eq_true] at hb40
          have hb41 := of_decide_eq_true hb40.2
          have hi : i = 0 := by
            have h1 : ∀ f, f < 47 → 40 ≤ f → gN f = 1 := by decide +kernel
            have h2 : i < gN e0.2.2.1 := hs.1
            rw [h1 _ hb41.2 hb41.1] at h2
            omega
          subst hi
          rw [List.map_cons, gv_ref (by omega)]
          exact va_tlen hx hb (hSt.1 e0 he1).2 hS (by rw [hsv]) hd (Hn _ _ _ h ⟨trivial, hs.2⟩ hl H locs ls hP hS hL)
theorem s_getstatic {idx : Nat} (E : gEv p R s m args c G A o cc nL d cells slots) (hd : decode cc pc = .ok (.getstatic idx, 3)) (h : gx o rt post (gCx l G A d) pc L st σ kn kj (.getstatic idx)) (Hn : ∀ L2 st2 σ2, kn L2 st2 σ2 → gWx p l e R s m args below meth c cells slots Q G A nL (pc + 3) L2 st2 σ2) : gWx p l e R s m args below meth c cells slots Q G A nL pc L st σ := by
  obtain ⟨hx, hb, hml, hown, hts, hK, hSt, hG, hcat, hR, hc1, hc2⟩ := id E
  intro hs hl H locs ls hP hS hL
  replace h : ggs o idx (fun v => kn L (v :: st) σ) := h
  unfold ggs at h
  split at h
  · rename_i q1 q2 f p0 hq
    obtain ⟨e1, e2, e3⟩ := gss_mem hq
    dsimp only at e1 e2
    subst e1; subst e2
    have hb40 := List.all_eq_true.mp gSL_ok _ e3
    rw [Bool.and_eq_true] at hb40
    have hb41 : 40 ≤ f ∧ f < 47 := of_decide_eq_true hb40.2
    have h1 : ∀ f, f < 47 → 40 ≤ f → gN f = 1 := by decide +kernel
    have hk := Hn _ _ _ h ⟨(by show 0 < gN f; rw [h1 f hb41.2 hb41.1]; decide), hs⟩ hl H locs ls hP hS hL
    rw [List.map_cons, gv_ref (by omega)] at hk
    exact va_gets hx hb (hSt.1 _ e3).1 hS hown (hts _ (gin_ok hb40.1)) (fun _ h9 => h9) hd hk
  · have hg := gstr_ok
    rw [Bool.and_eq_true, Bool.and_eq_true, Bool.and_eq_true] at hg
    by_cases c1 : o = 14 ∧ idx = gX_COMPACT_STRINGS
    · rw [if_pos c1] at h
      obtain ⟨rfl, rfl⟩ := c1
      exact va_gets hx hb hSt.2.1 hS hown (hts _ (gin_ok hg.1.2)) (fun _ h9 => h9) hd (Hn _ _ _ h ⟨trivial, hs⟩ hl H locs ls hP hS hL)
    · rw [if_neg c1] at h
      have hz := p_if h
      clear h
      obtain ⟨c2, h⟩ := hz
      obtain ⟨rfl, rfl⟩ := c2
      exact va_gets hx hb hSt.2.2.1 hS hown (hts _ (gin_ok hg.2)) (fun _ h9 => h9) hd (Hn _ _ _ h ⟨(show 0 < gN 52 by decide), hs⟩ hl H locs ls hP hS hL)
end SND
end
section
/-! SOUNDNESS, calls; blocks; contracts -/
section SND
variable {p : Program} {l : Launch} {e : Env} {R : Room} {s : State} {m : MethodId} {args : Array Value} {below : List Frame} {meth : Method} {c : Code} {cells slots : Nat} {Q : State → Prop} {G : gG} {A : Nat → Prop} {nL o d : Nat} {cc : ByteArray} {rt : Option FieldType} {post : Option gAV → gT → Prop} {pc : Nat} {L : gLo} {st : gSk} {σ : gT} {kn : gLo → gSk → gT → Prop} {kj : gK}
/-- behind a call -/
theorem g_call {H : Heap} {locs : List Loc} {ls : Array Slot} {rest st0 : List Value} {a : Array Value} {post2 : Option gAV → gT → Prop} (hr : va_Run p l e R s m args below meth c H locs cells slots 0 0 (F0 m pc ls st0) rest (gQ G A post2 a) A) (hS : va_S A s.heap H locs)
    (kk : ∀ (r : Option gAV) (σ2 : gT) (H1 : Heap) (locs1 : List Loc), gokO r → post2 r σ2 → va_P G.2.2.1 gCl (gW G σ2) H1 → va_S A s.heap H1 locs1 → W p l e R s m args below meth c H1 locs1 cells slots Q (F0 m (pc + 3) ls ((r.map (gv G)).toList ++ rest))) : W p l e R s m args below meth c H locs cells slots Q (F0 m pc ls st0) := by
  intro T hT X
  obtain ⟨v, st₀, t, T', L, h0, X', hL, e1, e2, ⟨r, σ2, hv, hok, hp, hPw, hz, hk⟩, st⟩ := hr T hT X
  cases hv
  rw [h0] at hz hk
  obtain ⟨t2, a1, b1⟩ := kk r σ2 T'.heap (locs ++ L) hok hp (by rw [e1]; exact hPw)
    ⟨Nat.le_trans hS.1 (by rw [e1]; exact hz), fun q h1 h2 => by rw [e1, hk q (Nat.lt_of_lt_of_le h1 hS.1) h2]; exact hS.2.1 q h1 h2, fun q hq => by
      rcases List.mem_append.mp hq with h | h
      · exact hS.2.2 q h
      · exact hL q h⟩ T' rfl X'
  exact ⟨t2, st t2 a1, b1⟩
theorem gmap_toList (r : Option gAV) (rest : gSk) : (r.map (gv G)).toList ++ rest.map (gv G) = (r.toList ++ rest).map (gv G) := by
  cases r <;> rfl
theorem gst_split (st : gSk) (n : Nat) : st.map (gv G) = (((st.take n).reverse).map (gv G)).reverse ++ (st.drop n).map (gv G) := by
  rw [List.map_reverse, List.reverse_reverse, ← List.map_append, List.take_append_drop]
theorem gvs_ret {r : Option gAV} {rest : gSk} (h1 : gokO r) (h2 : gvs rest) : gvs (r.toList ++ rest) := by
  cases r with
  | none => exact h2
  | some v => exact ⟨h1, h2⟩
theorem gchkY_ok {my : gMY} {n : Nat} (h : gchkY my n = true) : plainFor my.1 = true ∧ (my.1.cls ≠ "java/lang/invoke/MethodHandle" ∧ my.1.cls ≠ "java/lang/invoke/VarHandle" ∧ (parseMethodDescriptor my.1.desc).map (fun d => d.parameters.length) = some n) ∧ my.2.2.1 ≤ 40 := by
  unfold gchkY at h
  simp only [Bool.and_eq_true, decide_eq_true_eq] at h
  obtain ⟨⟨⟨⟨h1, h2⟩, h3⟩, h4⟩, h5⟩ := h
  exact ⟨h1, ⟨h2, h3, h4⟩, h5⟩
theorem s_calls {idx : Nat} (E : gEv p R s m args c G A o cc nL d cells slots) (hd : decode cc pc = .ok (.invokestatic idx, 3)) (h : gx o rt post (gCx l G A d) pc L st σ kn kj (.invokestatic idx)) (Hn : ∀ L2 st2 σ2, kn L2 st2 σ2 → gWx p l e R s m args below meth c cells slots Q G A nL (pc + 3) L2 st2 σ2) : gWx p l e R s m args below meth c cells slots Q G A nL pc L st σ := by
  obtain ⟨hx, hb, hml, hown, hts, hK, hSt, hG, hcat, hR, hc1, hc2⟩ := id E
  by_cases hac : gacp o idx = true
  · intro hs hl H locs ls hP hS hL
    have h2 : gcopy st σ (fun r σ2 => kn L r σ2) := by
      have h3 : (match gacp o idx with
        | true => gcopy st σ fun r σ2 => kn L r σ2
        | false => gcalls (gCx l G A d) o idx st σ fun r σ2 => kn L r σ2) := h
      rw [hac] at h3
      exact h3
    clear h
    unfold gcopy at h2
    split at h2
    · rename_i n dp g b sp f a r
      split at h2
      · rename_i n0 z0 n1 z1 hA hB
        obtain ⟨c1, c2, c3, c4, c5, h2⟩ := h2
        obtain ⟨c6, h2⟩ := p_if h2
        obtain ⟨e0, he1, he2⟩ := List.any_eq_true.mp hac
        simp only [Bool.and_eq_true, beq_iff_eq] at he2
        have hlink := List.all_eq_true.mp gACL_ok _ he1
        rw [he2.1, he2.2] at hlink
        have hsys := gsys_ok
        rw [Bool.and_eq_true, Bool.and_eq_true] at hsys
        obtain ⟨k0, q1, q2⟩ := gW_at G σ (gA_lt hA) hs.2.2.2.2.1
        obtain ⟨k1, q3, q4⟩ := gW_at G σ (gA_lt hB) hs.2.2.1
        unfold gE at q2 q4
        rw [hA] at q2
        rw [hB] at q4
        have hf : ¬ f = 52 := by have := gA_lt hA; omega
        have hg : ¬ g = 52 := by have := gA_lt hB; omega
        rw [List.map_cons, List.map_cons, List.map_cons, List.map_cons, List.map_cons, gv_ref hf, gv_ref hg]
        refine va_copyi hx hb (by rw [hml]; exact hL.1.symm) hown (hts _ (gin_ok hlink)) (hts _ (gin_ok hsys.1.1)) (hts _ (gin_ok hsys.1.2)) (hts _ (gin_ok hsys.2)) hK hP (gW_D hG σ) hS k0 k1 0 0 q2 q4 (gTy_at G).1 (gTy_at G).1 rfl c1 c2 c3 c4 c5 (fun _ _ => rfl) (by omega) ?_ hd (fun H1 locs1 hP1 hD1 hS1 => ?_)
        · rw [gv_cats hcat]
          have hw : nativeFrameWords "java/lang/System" "arraycopy" 5 ≤ 30 := by decide +kernel
          omega
        · refine Hn _ _ _ h2 hs.2.2.2.2.2 hl H1 locs1 ls (gW_set (σ := σ) (σ' := gsc σ f a sp.toNatClampNeg g b dp.toNatClampNeg n.toNatClampNeg) hG q3 ?_ (fun q hq => gE_congr (fun c => gsc_ne hq) (fun c => rfl)) hP1) hS1 hL
          unfold gE
          rw [hB, gsc_eq]
          rfl
      · exact h2.elim
    · exact h2.elim
  · have h2 : gcalls (gCx l G A d) o idx st σ (fun r σ2 => kn L r σ2) := by
      have h3 : (match gacp o idx with
        | true => gcopy st σ fun r σ2 => kn L r σ2
        | false => gcalls (gCx l G A d) o idx st σ fun r σ2 => kn L r σ2) := h
      rw [Bool.eq_false_iff.mpr hac] at h3
      exact h3
    clear h
    intro hs hl H locs ls hP hS hL
    unfold gcalls at h2
    split at h2
    · rename_i q kd n my ps hq
      obtain ⟨hc, h2⟩ := p_if h2
      obtain ⟨e1, e2, e3⟩ := giv_mem hq
      dsimp only at e1
      subst e1
      unfold gchkI at e3
      rw [Bool.and_eq_true, Bool.and_eq_true] at e3
      obtain ⟨⟨w1, w2⟩, w3⟩ := e3
      dsimp only at w1 w2 w3
      have hM := h2 hG hcat (gvs_take hs)
      have hcw := gin_ok w1
      have hlen : (((st.take n).reverse).map (gv G)).length = n := by
        rw [List.length_map, List.length_reverse, List.length_take]
        omega
      have hroom : 2 * (F0 m pc ls (st.map (gv G))).monitorRoom + (((st.drop n).map (gv G)).map fun v => v.category).sum ≤ 8 := lv_room (by rw [gv_cats hcat]; exact hc.2.2)
      have hpre : PreS s H (va_Pc (((st.take n).reverse).map (gv G)) (gPre G A σ)) (((st.take n).reverse).map (gv G)) := ⟨gPre.blind G A σ _, fun U hU hW => ⟨rfl, by rw [hU]; exact hP, va_K.moved hW.alike hK, by rw [hU]; exact hSt.to hW hS.2.1⟩⟩
      have goon : va_Run p l e R s m args below meth c H locs cells slots 0 0 (F0 m pc ls (st.map (gv G))) ((st.drop n).map (gv G)) (gQ G A (fun r σ2 => kn L (r.toList ++ st.drop n) σ2) (((st.take n).reverse).map (gv G)).toArray) A → W p l e R s m args below meth c H locs cells slots Q (F0 m pc ls (st.map (gv G))) := fun hr => g_call hr hS (fun r σ2 H1 locs1 hok hp hP1 hS1 => by
        rw [gmap_toList]
        exact Hn _ _ _ hp (gvs_ret hok (gvs_drop n hs)) hl H1 locs1 ls hP1 hS1 hL)
      rcases hc.1 with rfl | rfl
      · replace w3 : (gchkY my n && gin (ps.getD 0 0) (Cond.methodLink (gcn o) q my.1) && gin (ps.getD 1 0) (Cond.static my.1)) = true := w3
        rw [Bool.and_eq_true, Bool.and_eq_true] at w3
        obtain ⟨⟨w4, w5⟩, w6⟩ := w3
        obtain ⟨y1, y2, y3⟩ := gchkY_ok w4
        exact goon (va_runS (bytes := my.2.1) (maxL := my.2.2.1) (ret := my.2.2.2) (n := n) ⟨hx, hb, hml, hown, hts⟩ hM ⟨callB_of n hts (gws_good hcw) rfl rfl rfl (hts _ (gin_ok w2)) (hts _ (gin_ok w5)) y2 ⟨hR.1, by show 8 + (my.2.2.1 + 11) + 64 * d ≤ R.locals; omega⟩, hts _ (gin_ok w6)⟩ hpre rfl hlen hL.1 (gst_split st n) hroom hd ⟨hc1, hc2⟩)
      · replace w3 : (gchkY my n && gin (ps.getD 1 0) (Cond.static my.1)) = true := w3
        rw [Bool.and_eq_true] at w3
        obtain ⟨w4, w6⟩ := w3
        obtain ⟨y1, y2, y3⟩ := gchkY_ok w4
        exact goon (va_runSN (bytes := my.2.1) (maxL := my.2.2.1) (ret := my.2.2.2) (n := n) (host := "GrainWaves") ⟨hx, hb, hml, hown, hts⟩ hM ⟨va_cnB n hts (gws_good hcw) rfl rfl rfl (hSt.2.2.2.2.2 o _ e2 rfl) (hts _ (gin_ok w2)) y2 ⟨hR.1, by show 8 + (my.2.2.1 + 11) + 64 * d ≤ R.locals; omega⟩, hts _ (gin_ok w6), trivial⟩ hpre rfl hlen hL.1 (gst_split st n) hroom hd ⟨hc1, hc2⟩)
    · exact h2.elim
theorem s_callv {idx : Nat} (E : gEv p R s m args c G A o cc nL d cells slots) (hd : decode cc pc = .ok (.invokevirtual idx, 3)) (h : gx o rt post (gCx l G A d) pc L st σ kn kj (.invokevirtual idx)) (Hn : ∀ L2 st2 σ2, kn L2 st2 σ2 → gWx p l e R s m args below meth c cells slots Q G A nL (pc + 3) L2 st2 σ2) : gWx p l e R s m args below meth c cells slots Q G A nL pc L st σ := by
  obtain ⟨hx, hb, hml, hown, hts, hK, hSt, hG, hcat, hR, hc1, hc2⟩ := id E
  have h2 : gcallv (gCx l G A d) o idx st σ (fun r σ2 => kn L r σ2) := h
  clear h
  intro hs hl H locs ls hP hS hL
  unfold gcallv at h2
  split at h2
  · rename_i q kd n my ps hq
    obtain ⟨v, as, hst, h2⟩ := p_v_inv h2
    obtain ⟨f, i, rfl, h2⟩ := p_lR_inv h2
    obtain ⟨hc, h2⟩ := p_if h2
    obtain ⟨e1, e2, e3⟩ := giv_mem hq
    dsimp only at e1
    subst e1
    unfold gchkI at e3
    rw [Bool.and_eq_true, Bool.and_eq_true] at e3
    obtain ⟨⟨w1, w2⟩, w3⟩ := e3
    dsimp only at w1 w2 w3
    have hvt := gvs_take (n := n) hs
    rw [hst] at hvt
    have hM := h2 hG hcat hvt
    have hcw := gin_ok w1
    have hlen0 : (st.take n).reverse.length = n := by
      rw [List.length_reverse, List.length_take]
      omega
    have hkd : 100 ≤ kd := by rw [hc.1]; omega
    split at w3
    · omega
    · omega
    · simp only [Bool.and_eq_true, Bool.or_eq_true, decide_eq_true_eq] at w3
      obtain ⟨⟨⟨⟨⟨⟨⟨w4, w5⟩, w6⟩, w7⟩, w8⟩, w9⟩, w10⟩, w11⟩ := w3
      obtain ⟨y1, y2, y3⟩ := gchkY_ok w7
      have hlen : (as.map (gv G)).length = n - 1 := by
        rw [List.length_map]
        rw [hst, List.length_cons] at hlen0
        omega
      have hf : ¬ f = 52 := by
        intro z
        subst z
        have : kd = 199 := hc.1
        rcases w5 with w5 | w5 <;> omega
      have hroom : 2 * (F0 m pc ls (st.map (gv G))).monitorRoom + (((st.drop n).map (gv G)).map fun v => v.category).sum ≤ 8 := lv_room (by rw [gv_cats hcat]; exact hc.2.2)
      have hrecv : ∃ cellB : Cell, H[G.1 f i]? = some cellB ∧ cellB.vm.isStatics = false ∧ s.vm.findClass my.1.cls = some cellB.cls := by
        by_cases h50 : f = 50
        · subst h50
          have hk : kd = 114 := hc.1
          rw [hk] at w8
          rw [← w8]
          exact vk_recv hSt.2.2.2.1 hvt.1 hS
        · have hk := hc.1
          unfold gfc at hk
          rw [if_neg h50] at hk
          have hf11 : f < 11 := by
            by_cases z : f < 11
            · exact z
            · rw [if_neg z] at hk
              rcases w5 with w5 | w5 <;> omega
          rw [if_pos hf11] at hk
          obtain ⟨C, T, N, ty0, k1, k2, -, -, -, -, -, k8, -⟩ := gclk f hf11
          obtain ⟨k, q1, q2⟩ := gW_at G σ (show f < 39 by omega) hvt.1
          rw [gE_obj k8] at q2
          obtain ⟨cell, z1, z2, z3⟩ := va_recv hK hP k1 q2
          refine ⟨cell, z1, z2, ?_⟩
          have hz : 100 + f - 100 = f := by omega
          rw [hk, hz, ← k2] at w8
          rw [← w8]
          exact z3
      have hsplit : (F0 m pc ls (st.map (gv G))).stack = (as.map (gv G)).reverse ++ .ref (G.1 f i) :: (st.drop n).map (gv G) := by
        show st.map (gv G) = _
        rw [gst_split st n, hst, List.map_cons, List.reverse_cons, gv_ref hf, List.append_assoc]
        rfl
      rw [List.map_cons, gv_ref hf] at hM
      refine g_call (va_runV (C := my.1.cls) (b := G.1 f i) (As := as.map (gv G)) (rest := (st.drop n).map (gv G)) (bytes := my.2.1) (maxL := my.2.2.1) (ret := my.2.2.2) (n := n - 1) ⟨hx, hb, hml, hown, hts⟩ hM ⟨callB_of (n - 1) hts (gws_good hcw) rfl rfl rfl (hts _ (gin_ok w2)) (hts _ (gin_ok w9)) y2 ⟨hR.1, by show 8 + (my.2.2.1 + 11) + 64 * d ≤ R.locals; omega⟩, hts _ (gin_ok w10), hts _ (gin_ok w11)⟩ ⟨gPre.blind G A σ _, hrecv, fun U hU hW => ⟨rfl, by rw [hU]; exact hP, va_K.moved hW.alike hK, by rw [hU]; exact hSt.to hW hS.2.1⟩⟩ rfl hlen hL.1 hsplit hroom hd ⟨hc1, hc2⟩) hS (fun r σ2 H1 locs1 hok hp hP1 hS1 => ?_)
      rw [gmap_toList]
      exact Hn _ _ _ hp (gvs_ret hok (gvs_drop n hs)) hl H1 locs1 ls hP1 hS1 hL
  · exact h2.elim
end SND
end
section
/-! SOUNDNESS: returns, all instructions, blocks; a contract out of a method's blocks -/
section SND
variable {p : Program} {l : Launch} {e : Env} {R : Room} {s : State} {m : MethodId} {args : Array Value} {below : List Frame} {meth : Method} {c : Code} {cells slots : Nat} {Q : State → Prop} {G : gG} {A : Nat → Prop} {nL o d : Nat} {cc : ByteArray} {rt : Option FieldType} {post : Option gAV → gT → Prop} {pc : Nat} {L : gLo} {st : gSk} {σ : gT} {kn : gLo → gSk → gT → Prop} {kj : gK}
theorem s_ret {ii : Instr} (E : gEv p R s m args c G A o cc nL d 0 0) (hr : meth.sig.returnType = rt) (hlk : meth.locks = false) (hd : decode cc pc = .ok (ii, 1)) (h : gret rt post st σ ii) : gWx p l e R s m args below meth c 0 0 (MQ below (gQ G A post) args s 0 0 A) G A nL pc L st σ := by
  obtain ⟨hx, hb, hml, hown, hts, hK, hSt, hG, hcat, hR, hc1, hc2⟩ := id E
  intro hs hl H locs ls hP hS hL
  unfold gret at h
  split at h
  · split at h
    · rename_i v
      have key : ∀ ty, rt = some ty → narrow ty (.int v) = .int v → post (some (.inl v)) σ → W p l e R s m args below meth c H locs 0 0 (MQ below (gQ G A post) args s 0 0 A) (F0 m pc ls [.int v]) := fun ty hty hn hp => W.zret hx hb (hr.trans hty) hn (fun t ht hW => ⟨some (.inl v), σ, rfl, trivial, hp, by rw [ht]; exact hP, hS.F ht⟩) hS.2.2 hd hlk
      unfold gretz at h
      split at h
      · exact key _ rfl rfl h
      · exact key _ rfl (by rcases h.1 with rfl | rfl <;> rfl) h.2
      · exact key _ rfl (by rw [← h.1]; exact pk_nb _) h.2
      · exact key _ rfl (by rw [← h.1]; exact pk_nc _) h.2
      · exact h.elim
    · exact h.elim
  · split at h
    · rename_i v
      exact W.lret hx hb hr (fun t ht hW => ⟨some (.inr (.inl v)), σ, rfl, trivial, h, by rw [ht]; exact hP, hS.F ht⟩) hS.2.2 hd hlk
    · exact h.elim
  · split at h
    · rename_i f i
      obtain ⟨hf, h⟩ := p_nif h
      have key : ∀ ty, rt = some ty → ((∃ n, ty = .object n) ∨ ∃ t, ty = .array t) → post (some (.inr (.inr (f, i)))) σ → W p l e R s m args below meth c H locs 0 0 (MQ below (gQ G A post) args s 0 0 A) (F0 m pc ls [gv G (.inr (.inr (f, i)))]) := fun ty hty hn hp => W.aret hx hb (hr.trans hty) hn (Or.inr ⟨_, gv_ref hf⟩) (fun t ht hW => ⟨some (.inr (.inr (f, i))), σ, rfl, hs.1, hp, by rw [ht]; exact hP, hS.F ht⟩) hS.2.2 hd hlk
      split at h
      · exact key _ rfl (Or.inl ⟨_, rfl⟩) h
      · exact key _ rfl (Or.inr ⟨_, rfl⟩) h
      · exact h.elim
    · exact h.elim
  · split at h
    · exact W.vret hx hb hr (fun t ht hW => ⟨none, σ, rfl, trivial, h, by rw [ht]; exact hP, hS.F ht⟩) hS.2.2 hd hlk
    · exact h.elim
  · exact h.elim
set_option maxHeartbeats 4000000 in
theorem gx_sound (E : gEv p R s m args c G A o cc nL d cells slots) (HR : ∀ (pc : Nat) (L : gLo) (st : gSk) (σ : gT) (ii : Instr), decode cc pc = .ok (ii, 1) → gret rt post st σ ii → gWx p l e R s m args below meth c cells slots Q G A nL pc L st σ) (q : Instr × Nat) (hc : gchk cc pc q = true) (h : gx o rt post (gCx l G A d) pc L st σ kn kj q.1) (Hn : ∀ L2 st2 σ2, kn L2 st2 σ2 → gWx p l e R s m args below meth c cells slots Q G A nL (pc + q.2) L2 st2 σ2) (Hj : ∀ pc2 L2 st2 σ2, kj pc2 L2 st2 σ2 → gWx p l e R s m args below meth c cells slots Q G A nL pc2 L2 st2 σ2) : gWx p l e R s m args below meth c cells slots Q G A nL pc L st σ := by
  obtain ⟨ii, n⟩ := q
  unfold gchk at hc
  simp only [Bool.and_eq_true, decide_eq_true_eq, Bool.or_eq_true, beq_iff_eq] at hc
  obtain ⟨⟨hd, hn⟩, hj⟩ := hc
  dsimp only at h Hn hd hn hj
  cases ii with
  | iload_n _ => cases (hn.resolve_left (show ¬ (1 : Nat) = 0 by decide) : 1 = n); exact s_iload_n E hd h Hn
  | iload _ => cases (hn.resolve_left (show ¬ (2 : Nat) = 0 by decide) : 2 = n); exact s_iload E hd h Hn
  | lload_n _ => cases (hn.resolve_left (show ¬ (1 : Nat) = 0 by decide) : 1 = n); exact s_lload_n E hd h Hn
  | lload _ => cases (hn.resolve_left (show ¬ (2 : Nat) = 0 by decide) : 2 = n); exact s_lload E hd h Hn
  | aload_n _ => cases (hn.resolve_left (show ¬ (1 : Nat) = 0 by decide) : 1 = n); exact s_aload_n E hd h Hn
  | aload _ => cases (hn.resolve_left (show ¬ (2 : Nat) = 0 by decide) : 2 = n); exact s_aload E hd h Hn
  | istore_n _ => cases (hn.resolve_left (show ¬ (1 : Nat) = 0 by decide) : 1 = n); exact s_istore_n E hd h Hn
  | istore _ => cases (hn.resolve_left (show ¬ (2 : Nat) = 0 by decide) : 2 = n); exact s_istore E hd h Hn
  | lstore_n _ => cases (hn.resolve_left (show ¬ (1 : Nat) = 0 by decide) : 1 = n); exact s_lstore_n E hd h Hn
  | lstore _ => cases (hn.resolve_left (show ¬ (2 : Nat) = 0 by decide) : 2 = n); exact s_lstore E hd h Hn
  | astore_n _ => cases (hn.resolve_left (show ¬ (1 : Nat) = 0 by decide) : 1 = n); exact s_astore_n E hd h Hn
  | astore _ => cases (hn.resolve_left (show ¬ (2 : Nat) = 0 by decide) : 2 = n); exact s_astore E hd h Hn
  | iinc _ _ => cases (hn.resolve_left (show ¬ (3 : Nat) = 0 by decide) : 3 = n); exact s_iinc E hd hj h Hn
  | iconst _ => cases (hn.resolve_left (show ¬ (1 : Nat) = 0 by decide) : 1 = n); exact s_iconst E hd hj h Hn
  | bipush _ => cases (hn.resolve_left (show ¬ (2 : Nat) = 0 by decide) : 2 = n); exact s_bipush E hd hj h Hn
  | sipush _ => cases (hn.resolve_left (show ¬ (3 : Nat) = 0 by decide) : 3 = n); exact s_sipush E hd hj h Hn
  | lconst _ => cases (hn.resolve_left (show ¬ (1 : Nat) = 0 by decide) : 1 = n); exact s_lconst E hd h Hn
  | ldc _ => cases (hn.resolve_left (show ¬ (2 : Nat) = 0 by decide) : 2 = n); exact s_ldc E hd h Hn
  | ldc_w _ => cases (hn.resolve_left (show ¬ (3 : Nat) = 0 by decide) : 3 = n); exact s_ldc_w E hd h Hn
  | ldc2_w _ => cases (hn.resolve_left (show ¬ (3 : Nat) = 0 by decide) : 3 = n); exact s_ldc2_w E hd h Hn
  | iadd  => cases (hn.resolve_left (show ¬ (1 : Nat) = 0 by decide) : 1 = n); exact s_iadd E hd h Hn
  | isub  => cases (hn.resolve_left (show ¬ (1 : Nat) = 0 by decide) : 1 = n); exact s_isub E hd h Hn
  | imul  => cases (hn.resolve_left (show ¬ (1 : Nat) = 0 by decide) : 1 = n); exact s_imul E hd h Hn
  | iand  => cases (hn.resolve_left (show ¬ (1 : Nat) = 0 by decide) : 1 = n); exact s_iand E hd h Hn
  | ior  => cases (hn.resolve_left (show ¬ (1 : Nat) = 0 by decide) : 1 = n); exact s_ior E hd h Hn
  | idiv  => cases (hn.resolve_left (show ¬ (1 : Nat) = 0 by decide) : 1 = n); exact s_idiv E hd h Hn
  | irem  => cases (hn.resolve_left (show ¬ (1 : Nat) = 0 by decide) : 1 = n); exact s_irem E hd h Hn
  | ishl  => cases (hn.resolve_left (show ¬ (1 : Nat) = 0 by decide) : 1 = n); exact s_ishl E hd h Hn
  | ishr  => cases (hn.resolve_left (show ¬ (1 : Nat) = 0 by decide) : 1 = n); exact s_ishr E hd h Hn
  | iushr  => cases (hn.resolve_left (show ¬ (1 : Nat) = 0 by decide) : 1 = n); exact s_iushr E hd h Hn
  | ineg  => cases (hn.resolve_left (show ¬ (1 : Nat) = 0 by decide) : 1 = n); exact s_ineg E hd h Hn
  | ladd  => cases (hn.resolve_left (show ¬ (1 : Nat) = 0 by decide) : 1 = n); exact s_ladd E hd h Hn
  | lsub  => cases (hn.resolve_left (show ¬ (1 : Nat) = 0 by decide) : 1 = n); exact s_lsub E hd h Hn
  | lmul  => cases (hn.resolve_left (show ¬ (1 : Nat) = 0 by decide) : 1 = n); exact s_lmul E hd h Hn
  | land  => cases (hn.resolve_left (show ¬ (1 : Nat) = 0 by decide) : 1 = n); exact s_land E hd h Hn
  | lor  => cases (hn.resolve_left (show ¬ (1 : Nat) = 0 by decide) : 1 = n); exact s_lor E hd h Hn
  | ldiv  => cases (hn.resolve_left (show ¬ (1 : Nat) = 0 by decide) : 1 = n); exact s_ldiv E hd h Hn
  | lrem  => cases (hn.resolve_left (show ¬ (1 : Nat) = 0 by decide) : 1 = n); exact s_lrem E hd h Hn
  | lneg  => cases (hn.resolve_left (show ¬ (1 : Nat) = 0 by decide) : 1 = n); exact s_lneg E hd h Hn
  | lshl  => cases (hn.resolve_left (show ¬ (1 : Nat) = 0 by decide) : 1 = n); exact s_lshl E hd h Hn
  | lshr  => cases (hn.resolve_left (show ¬ (1 : Nat) = 0 by decide) : 1 = n); exact s_lshr E hd h Hn
  | lushr  => cases (hn.resolve_left (show ¬ (1 : Nat) = 0 by decide) : 1 = n); exact s_lushr E hd h Hn
  | lcmp  => cases (hn.resolve_left (show ¬ (1 : Nat) = 0 by decide) : 1 = n); exact s_lcmp E hd h Hn
  | i2l  => cases (hn.resolve_left (show ¬ (1 : Nat) = 0 by decide) : 1 = n); exact s_i2l E hd h Hn
  | l2i  => cases (hn.resolve_left (show ¬ (1 : Nat) = 0 by decide) : 1 = n); exact s_l2i E hd h Hn
  | i2b  => cases (hn.resolve_left (show ¬ (1 : Nat) = 0 by decide) : 1 = n); exact s_i2b E hd h Hn
  | i2s  => cases (hn.resolve_left (show ¬ (1 : Nat) = 0 by decide) : 1 = n); exact s_i2s E hd h Hn
  | i2c  => cases (hn.resolve_left (show ¬ (1 : Nat) = 0 by decide) : 1 = n); exact s_i2c E hd h Hn
  | dup  => cases (hn.resolve_left (show ¬ (1 : Nat) = 0 by decide) : 1 = n); exact s_dup E hd h Hn
  | pop  => cases (hn.resolve_left (show ¬ (1 : Nat) = 0 by decide) : 1 = n); exact s_pop E hd h Hn
  | dup2  => cases (hn.resolve_left (show ¬ (1 : Nat) = 0 by decide) : 1 = n); exact s_dup2 E hd h Hn
  | iaload  => cases (hn.resolve_left (show ¬ (1 : Nat) = 0 by decide) : 1 = n); exact s_iaload E hd h Hn
  | baload  => cases (hn.resolve_left (show ¬ (1 : Nat) = 0 by decide) : 1 = n); exact s_baload E hd h Hn
  | laload  => cases (hn.resolve_left (show ¬ (1 : Nat) = 0 by decide) : 1 = n); exact s_laload E hd h Hn
  | aaload  => cases (hn.resolve_left (show ¬ (1 : Nat) = 0 by decide) : 1 = n); exact s_aaload E hd h Hn
  | iastore  => cases (hn.resolve_left (show ¬ (1 : Nat) = 0 by decide) : 1 = n); exact s_iastore E hd h Hn
  | bastore  => cases (hn.resolve_left (show ¬ (1 : Nat) = 0 by decide) : 1 = n); exact s_bastore E hd h Hn
  | lastore  => cases (hn.resolve_left (show ¬ (1 : Nat) = 0 by decide) : 1 = n); exact s_lastore E hd h Hn
  | arraylength  => cases (hn.resolve_left (show ¬ (1 : Nat) = 0 by decide) : 1 = n); exact s_arraylength E hd h Hn
  | getfield _ => cases (hn.resolve_left (show ¬ (3 : Nat) = 0 by decide) : 3 = n); exact s_getfield E hd h Hn
  | putfield _ => cases (hn.resolve_left (show ¬ (3 : Nat) = 0 by decide) : 3 = n); exact s_putfield E hd h Hn
  | getstatic _ => cases (hn.resolve_left (show ¬ (3 : Nat) = 0 by decide) : 3 = n); exact s_getstatic E hd h Hn
  | invokestatic _ => cases (hn.resolve_left (show ¬ (3 : Nat) = 0 by decide) : 3 = n); exact s_calls E hd h Hn
  | invokevirtual _ => cases (hn.resolve_left (show ¬ (3 : Nat) = 0 by decide) : 3 = n); exact s_callv E hd h Hn
  | goto _ => cases (hn.resolve_left (show ¬ (3 : Nat) = 0 by decide) : 3 = n); exact s_goto E hd hj h Hn Hj
  | ifCond cd _ => cases (hn.resolve_left (show ¬ (3 : Nat) = 0 by decide) : 3 = n); cases cd with
    | eq => exact s_if_eq E hd hj h Hn Hj
    | ne => exact s_if_ne E hd hj h Hn Hj
    | lt => exact s_if_lt E hd hj h Hn Hj
    | ge => exact s_if_ge E hd hj h Hn Hj
    | gt => exact s_if_gt E hd hj h Hn Hj
    | le => exact s_if_le E hd hj h Hn Hj
  | if_icmp cd _ => cases (hn.resolve_left (show ¬ (3 : Nat) = 0 by decide) : 3 = n); cases cd with
    | eq => exact s_icmp_eq E hd hj h Hn Hj
    | ne => exact s_icmp_ne E hd hj h Hn Hj
    | lt => exact s_icmp_lt E hd hj h Hn Hj
    | ge => exact s_icmp_ge E hd hj h Hn Hj
    | gt => exact s_icmp_gt E hd hj h Hn Hj
    | le => exact s_icmp_le E hd hj h Hn Hj
  | tableswitch _ _ _ _ => exact s_table E hd hj h Hn Hj
  | lookupswitch _ _ => exact s_lookup E hd hj h Hn Hj
  | ireturn => cases (hn.resolve_left (show ¬ (1 : Nat) = 0 by decide) : 1 = n); exact HR pc L st σ _ hd h
  | lreturn => cases (hn.resolve_left (show ¬ (1 : Nat) = 0 by decide) : 1 = n); exact HR pc L st σ _ hd h
  | areturn => cases (hn.resolve_left (show ¬ (1 : Nat) = 0 by decide) : 1 = n); exact HR pc L st σ _ hd h
  | return_ => cases (hn.resolve_left (show ¬ (1 : Nat) = 0 by decide) : 1 = n); exact HR pc L st σ _ hd h
  | _ => exact False.elim h
theorem gwl_sound (E : gEv p R s m args c G A o cc nL d cells slots) (HR : ∀ (pc : Nat) (L : gLo) (st : gSk) (σ : gT) (ii : Instr), decode cc pc = .ok (ii, 1) → gret rt post st σ ii → gWx p l e R s m args below meth c cells slots Q G A nL pc L st σ) (Hj : ∀ pc2 L2 st2 σ2, kj pc2 L2 st2 σ2 → gWx p l e R s m args below meth c cells slots Q G A nL pc2 L2 st2 σ2) : ∀ (cs : List (Instr × Nat)) (pc : Nat) (L : gLo) (st : gSk) (σ : gT), gokl cc pc cs = true → gwl o rt post (gCx l G A d) kj cs pc L st σ → gWx p l e R s m args below meth c cells slots Q G A nL pc L st σ
  | [], pc, L, st, σ, _, h => Hj pc L st σ h
  | q :: cs, pc, L, st, σ, hk, h => by
    unfold gokl at hk
    rw [Bool.and_eq_true] at hk
    exact gx_sound E HR q hk.1 h (fun L2 st2 σ2 h2 => gwl_sound E HR Hj cs (pc + q.2) L2 st2 σ2 hk.2 h2) Hj
end SND
/-- locals that are read no more are forgotten -/
def gmsk : List Bool → gLo → gLo
  | b :: bs, v :: L => (match b with
    | true => v
    | false => none) :: gmsk bs L
  | _, L => L
theorem gmsk_len : ∀ (bs : List Bool) (L : gLo), (gmsk bs L).length = L.length
  | [], [] => rfl
  | [], _ :: _ => rfl
  | _ :: _, [] => rfl
  | b :: bs, v :: L => by
    unfold gmsk
    rw [List.length_cons, List.length_cons, gmsk_len bs L]
theorem gmsk_get : ∀ (bs : List Bool) (L : gLo) (i : Nat) (v : gAV), (gmsk bs L)[i]? = some (some v) → L[i]? = some (some v)
  | [], [], _, _, h => h
  | [], _ :: _, _, _, h => h
  | _ :: _, [], _, _, h => h
  | b :: bs, w :: L, i, v, h => by
    unfold gmsk at h
    cases i with
    | zero =>
      rw [List.getElem?_cons_zero] at h ⊢
      cases b
      · cases h
      · exact h
    | succ i =>
      rw [List.getElem?_cons_succ] at h ⊢
      exact gmsk_get bs L i v h
abbrev gTb : Type := List (Nat × List Bool × List (Instr × Nat))
def gbl (tb : gTb) (pc : Nat) : List (Instr × Nat) := match tb.find? (fun e => e.1 == pc) with
  | some e => e.2.2
  | none => []
def gmk (tb : gTb) (pc : Nat) : List Bool := match tb.find? (fun e => e.1 == pc) with
  | some e => e.2.1
  | none => []
theorem gbl_ok {cc : ByteArray} {tb : gTb} (h : tb.all (fun e => gokl cc e.1 e.2.2) = true) (pc : Nat) : gokl cc pc (gbl tb pc) = true := by
  unfold gbl
  split
  · rename_i e he
    have h1 := List.all_eq_true.mp h e (List.mem_of_find?_eq_some he)
    have h2 := List.find?_some he
    rw [← (by simpa using h2 : e.1 = pc)]
    exact h1
  · rfl
/-- Z is closed under what the blocks ask -/
def gSd (l : Launch) (G : gG) (A : Nat → Prop) (d o : Nat) (my : gMY) (tb : gTb) (post : Option gAV → gT → Prop) (Z : gK) : Prop := ∀ (pc : Nat) (L : gLo) (st : gSk) (σ : gT), gwl o my.2.2.2 post (gCx l G A d) (fun pc2 L2 st2 σ2 => Z pc2 (gmsk (gmk tb pc2) L2) st2 σ2) (gbl tb pc) pc L st σ → Z pc L st σ
theorem gen1_sl (G : gG) (hn : G.2.2.2.category = 1) : ∀ (as : List gAV), (lg_sl (as.map (gv G))).length = (gen1 as).length
  | [] => rfl
  | .inl x :: r => by
    have := gen1_sl G hn r
    simp only [lg_sl, List.map_cons, List.flatMap_cons, List.length_append, gen1, List.length_cons] at this ⊢
    rw [this, gv_cat hn]
    simp [gcat]
    omega
  | .inr (.inl x) :: r => by
    have := gen1_sl G hn r
    simp only [lg_sl, List.map_cons, List.flatMap_cons, List.length_append, gen1, List.length_cons] at this ⊢
    rw [this, gv_cat hn]
    simp [gcat]
    omega
  | .inr (.inr x) :: r => by
    have := gen1_sl G hn r
    simp only [lg_sl, List.map_cons, List.flatMap_cons, List.length_append, gen1, List.length_cons] at this ⊢
    rw [this, gv_cat hn]
    simp [gcat]
    omega
theorem gen1_at (G : gG) (hn : G.2.2.2.category = 1) : ∀ (as : List gAV) (k i : Nat) (v : gAV), (gen1 as)[i]? = some (some v) → (k + i, gv G v) ∈ lv_args k (as.map (gv G)) ∧ v ∈ as
  | [], k, i, v, h => by simp [gen1] at h
  | .inl x :: r, k, i, v, h => by
    cases i with
    | zero =>
      simp only [gen1, List.getElem?_cons_zero, Option.some.injEq] at h
      subst h
      exact ⟨by simp [lv_args], List.mem_cons_self⟩
    | succ i =>
      simp only [gen1, List.getElem?_cons_succ] at h
      have h2 := gen1_at G hn r (k + 1) i v h
      refine ⟨?_, List.mem_cons_of_mem _ h2.2⟩
      have e : k + (i + 1) = k + 1 + i := by omega
      rw [e]
      simp only [lv_args, List.map_cons, gv_cat hn, gcat]
      exact List.mem_cons_of_mem _ h2.1
  | .inr (.inr x) :: r, k, i, v, h => by
    cases i with
    | zero =>
      simp only [gen1, List.getElem?_cons_zero, Option.some.injEq] at h
      subst h
      exact ⟨by simp [lv_args], List.mem_cons_self⟩
    | succ i =>
      simp only [gen1, List.getElem?_cons_succ] at h
      have h2 := gen1_at G hn r (k + 1) i v h
      refine ⟨?_, List.mem_cons_of_mem _ h2.2⟩
      have e : k + (i + 1) = k + 1 + i := by omega
      rw [e]
      simp only [lv_args, List.map_cons, gv_cat hn, gcat]
      exact List.mem_cons_of_mem _ h2.1
  | .inr (.inl x) :: r, k, i, v, h => by
    match i, h with
    | 0, h =>
      simp only [gen1, List.getElem?_cons_zero, Option.some.injEq] at h
      subst h
      exact ⟨by simp [lv_args], List.mem_cons_self⟩
    | 1, h =>
      simp only [gen1, List.getElem?_cons_succ, List.getElem?_cons_zero] at h
      cases h
    | i + 2, h =>
      simp only [gen1, List.getElem?_cons_succ] at h
      have h2 := gen1_at G hn r (k + 2) i v h
      refine ⟨?_, List.mem_cons_of_mem _ h2.2⟩
      have e : k + (i + 2) = k + 2 + i := by omega
      rw [e]
      simp only [lv_args, List.map_cons, gv_cat hn, gcat]
      exact List.mem_cons_of_mem _ h2.1
theorem gMet_ofW {l : Launch} {y : MethodName} {ws ws' : List Cond} {rm : Room} {Pc : Array Value → State → Prop} {Qc : Array Value → State → Outcome → State → Prop} {mc ms : Nat} {free : Addr → Prop} {cc : ByteArray} {maxL : Nat} {ret : Option FieldType}
    (hy : plainFor y = true) (hw : ws = Cond.code y cc maxL ret :: ws')
    (body : ∀ p e s m args below meth c s₁, BodyLoose p l y (headSpec ws rm) cc maxL ret e s m args below meth c s₁ → c.maxLocals = maxL → Pc args s →
      W p l e (headSpec ws rm).room s m args below meth c s.heap [] 0 0 (MQ below Qc args s mc ms free) (entryFrame m args maxL)) : Met l y ws rm Pc Qc mc ms free := by
  refine MetFree.of_bodySF (code := cc) (maxLocals := maxL) (ret := ret) hy ?_ ?_
  · intro args s m h hn
    obtain ⟨meth, c, h1, h2, h3, h4, h5, h6, -, -⟩ := Cond.code_spec hn (atoms_spec (ws := ws) h _ (by rw [hw]; exact List.mem_cons_self))
    exact ⟨meth, c, h1, h2, h3, h4, h5, h6⟩
  · intro p e s m args below meth c s₁ B hml hP _
    have hh0 : s₁.heap = s.heap := by rw [B.state]; rfl
    obtain ⟨t, a1, o, b1, b2, b3⟩ := body p e s m args below meth c s₁ B hml hP s₁ hh0 (Stand.of_body B)
    exact ⟨t, o, a1, b1, b2, ⟨b3.1, b3.2⟩⟩
/-- A CONTRACT out of a method's blocks -/
theorem gCx.of {l : Launch} {G : gG} {A : Nat → Prop} {d o : Nat} {my : gMY} {tb : gTb} {as : List gAV} {σ : gT} {post : Option gAV → gT → Prop} (hy : plainFor my.1 = true ∧ my.1.cls = gcn o) (hbl : tb.all (fun e => gokl my.2.1 e.1 e.2.2) = true) (hen : (gen1 as).length ≤ my.2.2.1) (h : ∀ Z : gK, gSd l G A d o my tb post Z → Z 0 (gen my.2.2.1 as) [] σ) : gCx l G A (d + 1) my as σ post := by
  intro hG hcat hvs
  refine gMet_ofW (cc := my.2.1) (maxL := my.2.2.1) (ret := my.2.2.2) hy.1 rfl ?_
  intro p e s m args below meth c s₁ B hml hv
  obtain ⟨rfl, hP, hK, hSt⟩ := hv
  have hts0 := atoms_spec (ws := gws my) B.pre
  have E : gEv p (gRm (d + 1)) s m (as.map (gv G)).toArray c G A o my.2.1 my.2.2.1 d 0 0 := ⟨B.exec, B.bytes, hml, by rw [← hy.2]; exact findClass_of_methodNamed B.named, fun w hw => hts0 w (List.mem_cons_of_mem _ hw), hK, hSt, hG, hcat, ⟨Nat.le_refl _, by show 64 * d + 60 ≤ 64 * (d + 1); omega⟩, Nat.le_refl _, Nat.le_refl _⟩
  have hZ : gSd l G A d o my tb post (gWx p l e (gRm (d + 1)) s m (as.map (gv G)).toArray below meth c 0 0 (MQ below (gQ G A post) (as.map (gv G)).toArray s 0 0 A) G A my.2.2.1) := fun pc L st σ hw => gwl_sound E (fun pc L st σ ii hd hr => s_ret E B.returns B.notSynchronized hd hr) (fun pc2 L2 st2 σ2 z hs hl H locs ls hP hS hL => z hs (fun i v hi => hl i v (gmsk_get _ _ i v hi)) H locs ls hP hS ⟨hL.1, hL.2.1, (gmsk_len _ _).trans hL.2.2.1, fun i v hi => hL.2.2.2 i v (gmsk_get _ _ i v hi)⟩) (gbl tb pc) pc L st σ (gbl_ok hbl pc) hw
  have hlen := gen1_sl G hcat as
  have hle := lv_entry (as.map (gv G)) (n := my.2.2.1) (by rw [hlen]; exact hen)
  rw [lg_entry_eq]
  generalize (lg_sl (as.map (gv G)) ++ List.replicate (my.2.2.1 - (lg_sl (as.map (gv G))).length) Slot.unset).toArray = ls at hle ⊢
  have key : ∀ (i : Nat) (v : gAV), (gen my.2.2.1 as)[i]? = some (some v) → (gen1 as)[i]? = some (some v) := by
    intro i v hi
    unfold gen at hi
    by_cases hl : i < (gen1 as).length
    · rw [List.getElem?_append_left hl] at hi
      exact hi
    · rw [List.getElem?_append_right (by omega)] at hi
      have := List.mem_of_getElem? hi
      rw [List.mem_replicate] at this
      cases this.2
  refine h _ hZ trivial (fun i v hi => ?_) s.heap [] ls hP va_S.rf ⟨hle.1, hle.2.1, ?_, fun i v hi => ?_⟩
  · exact gvs_mem.mp hvs v (gen1_at G hcat as 0 i v (key i v hi)).2
  · unfold gen
    rw [List.length_append, List.length_replicate]
    omega
  · have := (gen1_at G hcat as 0 i v (key i v hi)).1
    rw [Nat.zero_add] at this
    exact hle.2.2 (i, gv G v) this
end
section
/-! the code in blocks, and what each block asks -/
def tbJ6_bitCount_0f7a4 : gTb := [(0, [true], [(.iload_n 0, 1), (.iload_n 0, 1), (.iconst 1, 1), (.iushr, 1), (.ldc_w 265, 3), (.iand, 1), (.isub, 1), (.istore_n 0, 1), (.iload_n 0, 1), (.ldc_w 266, 3), (.iand, 1), (.iload_n 0, 1), (.iconst 2, 1), (.iushr, 1), (.ldc_w 266, 3), (.iand, 1), (.iadd, 1), (.istore_n 0, 1), (.iload_n 0, 1), (.iload_n 0, 1), (.iconst 4, 1), (.iushr, 1), (.iadd, 1), (.ldc_w 267, 3), (.iand, 1), (.istore_n 0, 1), (.iload_n 0, 1), (.iload_n 0, 1), (.bipush 8, 2), (.iushr, 1), (.iadd, 1), (.istore_n 0, 1), (.iload_n 0, 1), (.iload_n 0, 1), (.bipush 16, 2), (.iushr, 1), (.iadd, 1), (.istore_n 0, 1), (.iload_n 0, 1), (.bipush 63, 2), (.iand, 1), (.ireturn, 1)])]
theorem tbJ6_bitCount_0f7a4_ok : tbJ6_bitCount_0f7a4.all (fun e => gokl myJ6_bitCount_0f7a4.2.1 e.1 e.2.2) = true := by decide +kernel
theorem okJ6_bitCount_0f7a4 : plainFor myJ6_bitCount_0f7a4.1 = true ∧ myJ6_bitCount_0f7a4.1.cls = gcn 12 := by decide +kernel
theorem BJ6_bitCount_0f7a4_0 {l : Launch} {G : gG} {A : Nat → Prop} {d : Nat} {post : Option gAV → gT → Prop} {Z : gK} (hZ : gSd l G A d 12 myJ6_bitCount_0f7a4 tbJ6_bitCount_0f7a4 post Z) {σ : gT} {x0 : Int32} (h : post (some (.inl ((((((((x0 - (((x0 : Int32).toUInt32 >>> (((1 : Int32) : Int32).toUInt32 &&& Int32.toUInt32 31)).toInt32 &&& (1431655765 : Int32))) &&& (858993459 : Int32)) + ((((x0 - (((x0 : Int32).toUInt32 >>> (((1 : Int32) : Int32).toUInt32 &&& Int32.toUInt32 31)).toInt32 &&& (1431655765 : Int32))) : Int32).toUInt32 >>> (((2 : Int32) : Int32).toUInt32 &&& Int32.toUInt32 31)).toInt32 &&& (858993459 : Int32))) + (((((x0 - (((x0 : Int32).toUInt32 >>> (((1 : Int32) : Int32).toUInt32 &&& Int32.toUInt32 31)).toInt32 &&& (1431655765 : Int32))) &&& (858993459 : Int32)) + ((((x0 - (((x0 : Int32).toUInt32 >>> (((1 : Int32) : Int32).toUInt32 &&& Int32.toUInt32 31)).toInt32 &&& (1431655765 : Int32))) : Int32).toUInt32 >>> (((2 : Int32) : Int32).toUInt32 &&& Int32.toUInt32 31)).toInt32 &&& (858993459 : Int32))) : Int32).toUInt32 >>> (((4 : Int32) : Int32).toUInt32 &&& Int32.toUInt32 31)).toInt32) &&& (252645135 : Int32)) + (((((((x0 - (((x0 : Int32).toUInt32 >>> (((1 : Int32) : Int32).toUInt32 &&& Int32.toUInt32 31)).toInt32 &&& (1431655765 : Int32))) &&& (858993459 : Int32)) + ((((x0 - (((x0 : Int32).toUInt32 >>> (((1 : Int32) : Int32).toUInt32 &&& Int32.toUInt32 31)).toInt32 &&& (1431655765 : Int32))) : Int32).toUInt32 >>> (((2 : Int32) : Int32).toUInt32 &&& Int32.toUInt32 31)).toInt32 &&& (858993459 : Int32))) + (((((x0 - (((x0 : Int32).toUInt32 >>> (((1 : Int32) : Int32).toUInt32 &&& Int32.toUInt32 31)).toInt32 &&& (1431655765 : Int32))) &&& (858993459 : Int32)) + ((((x0 - (((x0 : Int32).toUInt32 >>> (((1 : Int32) : Int32).toUInt32 &&& Int32.toUInt32 31)).toInt32 &&& (1431655765 : Int32))) : Int32).toUInt32 >>> (((2 : Int32) : Int32).toUInt32 &&& Int32.toUInt32 31)).toInt32 &&& (858993459 : Int32))) : Int32).toUInt32 >>> (((4 : Int32) : Int32).toUInt32 &&& Int32.toUInt32 31)).toInt32) &&& (252645135 : Int32)) : Int32).toUInt32 >>> (((8 : Int32) : Int32).toUInt32 &&& Int32.toUInt32 31)).toInt32) + ((((((((x0 - (((x0 : Int32).toUInt32 >>> (((1 : Int32) : Int32).toUInt32 &&& Int32.toUInt32 31)).toInt32 &&& (1431655765 : Int32))) &&& (858993459 : Int32)) + ((((x0 - (((x0 : Int32).toUInt32 >>> (((1 : Int32) : Int32).toUInt32 &&& Int32.toUInt32 31)).toInt32 &&& (1431655765 : Int32))) : Int32).toUInt32 >>> (((2 : Int32) : Int32).toUInt32 &&& Int32.toUInt32 31)).toInt32 &&& (858993459 : Int32))) + (((((x0 - (((x0 : Int32).toUInt32 >>> (((1 : Int32) : Int32).toUInt32 &&& Int32.toUInt32 31)).toInt32 &&& (1431655765 : Int32))) &&& (858993459 : Int32)) + ((((x0 - (((x0 : Int32).toUInt32 >>> (((1 : Int32) : Int32).toUInt32 &&& Int32.toUInt32 31)).toInt32 &&& (1431655765 : Int32))) : Int32).toUInt32 >>> (((2 : Int32) : Int32).toUInt32 &&& Int32.toUInt32 31)).toInt32 &&& (858993459 : Int32))) : Int32).toUInt32 >>> (((4 : Int32) : Int32).toUInt32 &&& Int32.toUInt32 31)).toInt32) &&& (252645135 : Int32)) + (((((((x0 - (((x0 : Int32).toUInt32 >>> (((1 : Int32) : Int32).toUInt32 &&& Int32.toUInt32 31)).toInt32 &&& (1431655765 : Int32))) &&& (858993459 : Int32)) + ((((x0 - (((x0 : Int32).toUInt32 >>> (((1 : Int32) : Int32).toUInt32 &&& Int32.toUInt32 31)).toInt32 &&& (1431655765 : Int32))) : Int32).toUInt32 >>> (((2 : Int32) : Int32).toUInt32 &&& Int32.toUInt32 31)).toInt32 &&& (858993459 : Int32))) + (((((x0 - (((x0 : Int32).toUInt32 >>> (((1 : Int32) : Int32).toUInt32 &&& Int32.toUInt32 31)).toInt32 &&& (1431655765 : Int32))) &&& (858993459 : Int32)) + ((((x0 - (((x0 : Int32).toUInt32 >>> (((1 : Int32) : Int32).toUInt32 &&& Int32.toUInt32 31)).toInt32 &&& (1431655765 : Int32))) : Int32).toUInt32 >>> (((2 : Int32) : Int32).toUInt32 &&& Int32.toUInt32 31)).toInt32 &&& (858993459 : Int32))) : Int32).toUInt32 >>> (((4 : Int32) : Int32).toUInt32 &&& Int32.toUInt32 31)).toInt32) &&& (252645135 : Int32)) : Int32).toUInt32 >>> (((8 : Int32) : Int32).toUInt32 &&& Int32.toUInt32 31)).toInt32) : Int32).toUInt32 >>> (((16 : Int32) : Int32).toUInt32 &&& Int32.toUInt32 31)).toInt32) &&& (63 : Int32)))) σ) : Z 0 [some (.inl x0)] [] σ := hZ _ _ _ _ h
def tbJ9_abs_0f7a4 : gTb := [(0, [true], [(.iload_n 0, 1), (.ifCond .ge 8, 3), (.iload_n 0, 1), (.ineg, 1), (.goto 4, 3)]), (9, [true], [(.iload_n 0, 1)]), (10, [false], [(.ireturn, 1)])]
theorem tbJ9_abs_0f7a4_ok : tbJ9_abs_0f7a4.all (fun e => gokl myJ9_abs_0f7a4.2.1 e.1 e.2.2) = true := by decide +kernel
theorem okJ9_abs_0f7a4 : plainFor myJ9_abs_0f7a4.1 = true ∧ myJ9_abs_0f7a4.1.cls = gcn 13 := by decide +kernel
theorem BJ9_abs_0f7a4_0 {l : Launch} {G : gG} {A : Nat → Prop} {d : Nat} {post : Option gAV → gT → Prop} {Z : gK} (hZ : gSd l G A d 13 myJ9_abs_0f7a4 tbJ9_abs_0f7a4 post Z) {σ : gT} {x0 : Int32} (h : (0 ≤ x0 → Z 9 [some (.inl x0)] [] σ) ∧ (¬ 0 ≤ x0 → Z 10 [none] [.inl (-x0)] σ)) : Z 0 [some (.inl x0)] [] σ := hZ _ _ _ _ h
theorem BJ9_abs_0f7a4_9 {l : Launch} {G : gG} {A : Nat → Prop} {d : Nat} {post : Option gAV → gT → Prop} {Z : gK} (hZ : gSd l G A d 13 myJ9_abs_0f7a4 tbJ9_abs_0f7a4 post Z) {σ : gT} {x0 : Int32} (h : Z 10 [none] [.inl x0] σ) : Z 9 [some (.inl x0)] [] σ := hZ _ _ _ _ h
theorem BJ9_abs_0f7a4_10 {l : Launch} {G : gG} {A : Nat → Prop} {d : Nat} {post : Option gAV → gT → Prop} {Z : gK} (hZ : gSd l G A d 13 myJ9_abs_0f7a4 tbJ9_abs_0f7a4 post Z) {σ : gT} {t0 : Int32} (h : post (some (.inl t0)) σ) : Z 10 [none] [.inl t0] σ := hZ _ _ _ _ h
def tbJ9_abs_067f4 : gTb := [(0, [true, false], [(.lload_n 0, 1), (.lconst 0, 1), (.lcmp, 1), (.ifCond .ge 8, 3), (.lload_n 0, 1), (.lneg, 1), (.goto 4, 3)]), (11, [true, false], [(.lload_n 0, 1)]), (12, [false, false], [(.lreturn, 1)])]
theorem tbJ9_abs_067f4_ok : tbJ9_abs_067f4.all (fun e => gokl myJ9_abs_067f4.2.1 e.1 e.2.2) = true := by decide +kernel
theorem okJ9_abs_067f4 : plainFor myJ9_abs_067f4.1 = true ∧ myJ9_abs_067f4.1.cls = gcn 13 := by decide +kernel
theorem BJ9_abs_067f4_0 {l : Launch} {G : gG} {A : Nat → Prop} {d : Nat} {post : Option gAV → gT → Prop} {Z : gK} (hZ : gSd l G A d 13 myJ9_abs_067f4 tbJ9_abs_067f4 post Z) {σ : gT} {y0 : Int64} (h : (0 ≤ (lg_cmp y0 (0 : Int64)) → Z 11 [some (.inr (.inl y0)), none] [] σ) ∧ (¬ 0 ≤ (lg_cmp y0 (0 : Int64)) → Z 12 [none, none] [.inr (.inl (-y0))] σ)) : Z 0 [some (.inr (.inl y0)), none] [] σ := hZ _ _ _ _ h
theorem BJ9_abs_067f4_11 {l : Launch} {G : gG} {A : Nat → Prop} {d : Nat} {post : Option gAV → gT → Prop} {Z : gK} (hZ : gSd l G A d 13 myJ9_abs_067f4 tbJ9_abs_067f4 post Z) {σ : gT} {y0 : Int64} (h : Z 12 [none, none] [.inr (.inl y0)] σ) : Z 11 [some (.inr (.inl y0)), none] [] σ := hZ _ _ _ _ h
theorem BJ9_abs_067f4_12 {l : Launch} {G : gG} {A : Nat → Prop} {d : Nat} {post : Option gAV → gT → Prop} {Z : gK} (hZ : gSd l G A d 13 myJ9_abs_067f4 tbJ9_abs_067f4 post Z) {σ : gT} {u0 : Int64} (h : post (some (.inr (.inl u0))) σ) : Z 12 [none, none] [.inr (.inl u0)] σ := hZ _ _ _ _ h
def tbJ9_max_7cf53 : gTb := [(0, [true, true], [(.iload_n 0, 1), (.iload_n 1, 1), (.if_icmp .lt 7, 3), (.iload_n 0, 1), (.goto 4, 3)]), (9, [false, true], [(.iload_n 1, 1)]), (10, [false, false], [(.ireturn, 1)])]
theorem tbJ9_max_7cf53_ok : tbJ9_max_7cf53.all (fun e => gokl myJ9_max_7cf53.2.1 e.1 e.2.2) = true := by decide +kernel
theorem okJ9_max_7cf53 : plainFor myJ9_max_7cf53.1 = true ∧ myJ9_max_7cf53.1.cls = gcn 13 := by decide +kernel
theorem BJ9_max_7cf53_0 {l : Launch} {G : gG} {A : Nat → Prop} {d : Nat} {post : Option gAV → gT → Prop} {Z : gK} (hZ : gSd l G A d 13 myJ9_max_7cf53 tbJ9_max_7cf53 post Z) {σ : gT} {x0 : Int32} {x1 : Int32} (h : (x0 < x1 → Z 9 [none, some (.inl x1)] [] σ) ∧ (¬ x0 < x1 → Z 10 [none, none] [.inl x0] σ)) : Z 0 [some (.inl x0), some (.inl x1)] [] σ := hZ _ _ _ _ h
theorem BJ9_max_7cf53_9 {l : Launch} {G : gG} {A : Nat → Prop} {d : Nat} {post : Option gAV → gT → Prop} {Z : gK} (hZ : gSd l G A d 13 myJ9_max_7cf53 tbJ9_max_7cf53 post Z) {σ : gT} {x1 : Int32} (h : Z 10 [none, none] [.inl x1] σ) : Z 9 [none, some (.inl x1)] [] σ := hZ _ _ _ _ h
theorem BJ9_max_7cf53_10 {l : Launch} {G : gG} {A : Nat → Prop} {d : Nat} {post : Option gAV → gT → Prop} {Z : gK} (hZ : gSd l G A d 13 myJ9_max_7cf53 tbJ9_max_7cf53 post Z) {σ : gT} {t0 : Int32} (h : post (some (.inl t0)) σ) : Z 10 [none, none] [.inl t0] σ := hZ _ _ _ _ h
def tbJ9_min_f86c9 : gTb := [(0, [true, false, true, false], [(.lload_n 0, 1), (.lload_n 2, 1), (.lcmp, 1), (.ifCond .gt 7, 3), (.lload_n 0, 1), (.goto 4, 3)]), (10, [false, false, true, false], [(.lload_n 2, 1)]), (11, [false, false, false, false], [(.lreturn, 1)])]
theorem tbJ9_min_f86c9_ok : tbJ9_min_f86c9.all (fun e => gokl myJ9_min_f86c9.2.1 e.1 e.2.2) = true := by decide +kernel
theorem okJ9_min_f86c9 : plainFor myJ9_min_f86c9.1 = true ∧ myJ9_min_f86c9.1.cls = gcn 13 := by decide +kernel
theorem BJ9_min_f86c9_0 {l : Launch} {G : gG} {A : Nat → Prop} {d : Nat} {post : Option gAV → gT → Prop} {Z : gK} (hZ : gSd l G A d 13 myJ9_min_f86c9 tbJ9_min_f86c9 post Z) {σ : gT} {y0 : Int64} {y2 : Int64} (h : (0 < (lg_cmp y0 y2) → Z 10 [none, none, some (.inr (.inl y2)), none] [] σ) ∧ (¬ 0 < (lg_cmp y0 y2) → Z 11 [none, none, none, none] [.inr (.inl y0)] σ)) : Z 0 [some (.inr (.inl y0)), none, some (.inr (.inl y2)), none] [] σ := hZ _ _ _ _ h
theorem BJ9_min_f86c9_10 {l : Launch} {G : gG} {A : Nat → Prop} {d : Nat} {post : Option gAV → gT → Prop} {Z : gK} (hZ : gSd l G A d 13 myJ9_min_f86c9 tbJ9_min_f86c9 post Z) {σ : gT} {y2 : Int64} (h : Z 11 [none, none, none, none] [.inr (.inl y2)] σ) : Z 10 [none, none, some (.inr (.inl y2)), none] [] σ := hZ _ _ _ _ h
theorem BJ9_min_f86c9_11 {l : Launch} {G : gG} {A : Nat → Prop} {d : Nat} {post : Option gAV → gT → Prop} {Z : gK} (hZ : gSd l G A d 13 myJ9_min_f86c9 tbJ9_min_f86c9 post Z) {σ : gT} {u0 : Int64} (h : post (some (.inr (.inl u0))) σ) : Z 11 [none, none, none, none] [.inr (.inl u0)] σ := hZ _ _ _ _ h
def tbJ0_length_8abf5 : gTb := [(0, [true], [(.aload_n 0, 1), (.getfield 9, 3), (.arraylength, 1), (.aload_n 0, 1), (.invokevirtual 335, 3)]), (9, [false], [(.ishr, 1), (.ireturn, 1)])]
theorem tbJ0_length_8abf5_ok : tbJ0_length_8abf5.all (fun e => gokl myJ0_length_8abf5.2.1 e.1 e.2.2) = true := by decide +kernel
theorem okJ0_length_8abf5 : plainFor myJ0_length_8abf5.1 = true ∧ myJ0_length_8abf5.1.cls = gcn 14 := by decide +kernel
theorem BJ0_length_8abf5_0 {l : Launch} {G : gG} {A : Nat → Prop} {d : Nat} {post : Option gAV → gT → Prop} {Z : gK} (hZ : gSd l G A d 14 myJ0_length_8abf5 tbJ0_length_8abf5 post Z) {σ : gT} {i0 : Nat} (h : gCx l G A d myJ0_coder_7d493 [.inr (.inr (50, i0))] σ (fun r s2 => Z 9 [none] (r.toList ++ [.inl (Int32.ofNat (gLen.getD i0 0))]) s2)) : Z 0 [some (.inr (.inr (50, i0)))] [] σ := hZ _ _ _ _ h
theorem BJ0_length_8abf5_9 {l : Launch} {G : gG} {A : Nat → Prop} {d : Nat} {post : Option gAV → gT → Prop} {Z : gK} (hZ : gSd l G A d 14 myJ0_length_8abf5 tbJ0_length_8abf5 post Z) {σ : gT} {t0 : Int32} {t1 : Int32} (h : post (some (.inl (t1 >>> (t0 &&& 31)))) σ) : Z 9 [none] [.inl t0, .inl t1] σ := hZ _ _ _ _ h
def tbJ0_charAt_5068e : gTb := [(0, [true, true], [(.aload_n 0, 1), (.invokevirtual 492, 3)]), (4, [true, true], [(.ifCond .eq 12, 3), (.aload_n 0, 1), (.getfield 9, 3), (.iload_n 1, 1), (.invokestatic 495, 3)]), (15, [false, false], [(.ireturn, 1)]), (16, [true, true], [(.aload_n 0, 1), (.getfield 9, 3), (.iload_n 1, 1), (.invokestatic 498, 3)]), (24, [false, false], [(.ireturn, 1)])]
theorem tbJ0_charAt_5068e_ok : tbJ0_charAt_5068e.all (fun e => gokl myJ0_charAt_5068e.2.1 e.1 e.2.2) = true := by decide +kernel
theorem okJ0_charAt_5068e : plainFor myJ0_charAt_5068e.1 = true ∧ myJ0_charAt_5068e.1.cls = gcn 14 := by decide +kernel
theorem BJ0_charAt_5068e_0 {l : Launch} {G : gG} {A : Nat → Prop} {d : Nat} {post : Option gAV → gT → Prop} {Z : gK} (hZ : gSd l G A d 14 myJ0_charAt_5068e tbJ0_charAt_5068e post Z) {σ : gT} {i0 : Nat} {x1 : Int32} (h : gCx l G A d myJ0_isLatin1_aae02 [.inr (.inr (50, i0))] σ (fun r s2 => Z 4 [some (.inr (.inr (50, i0))), some (.inl x1)] (r.toList ++ []) s2)) : Z 0 [some (.inr (.inr (50, i0))), some (.inl x1)] [] σ := hZ _ _ _ _ h
theorem BJ0_charAt_5068e_4 {l : Launch} {G : gG} {A : Nat → Prop} {d : Nat} {post : Option gAV → gT → Prop} {Z : gK} (hZ : gSd l G A d 14 myJ0_charAt_5068e tbJ0_charAt_5068e post Z) {σ : gT} {i0 : Nat} {x1 : Int32} {t0 : Int32} (h : (t0 = 0 → Z 16 [some (.inr (.inr (50, i0))), some (.inl x1)] [] σ) ∧ (¬ t0 = 0 → gCx l G A d myJ1_charAt_3b067 [.inr (.inr (51, i0)), .inl x1] σ (fun r s2 => Z 15 [none, none] (r.toList ++ []) s2))) : Z 4 [some (.inr (.inr (50, i0))), some (.inl x1)] [.inl t0] σ := hZ _ _ _ _ h
theorem BJ0_charAt_5068e_15 {l : Launch} {G : gG} {A : Nat → Prop} {d : Nat} {post : Option gAV → gT → Prop} {Z : gK} (hZ : gSd l G A d 14 myJ0_charAt_5068e tbJ0_charAt_5068e post Z) {σ : gT} {t0 : Int32} (h : ((t0 : Int32).toUInt32 % 65536).toInt32 = t0 ∧ post (some (.inl t0)) σ) : Z 15 [none, none] [.inl t0] σ := hZ _ _ _ _ h
theorem BJ0_charAt_5068e_16 {l : Launch} {G : gG} {A : Nat → Prop} {d : Nat} {post : Option gAV → gT → Prop} {Z : gK} (hZ : gSd l G A d 14 myJ0_charAt_5068e tbJ0_charAt_5068e post Z) {σ : gT} {i0 : Nat} {x1 : Int32} (h : gCx l G A d myJ2_charAt_3b067 [.inr (.inr (51, i0)), .inl x1] σ (fun r s2 => Z 24 [none, none] (r.toList ++ []) s2)) : Z 16 [some (.inr (.inr (50, i0))), some (.inl x1)] [] σ := hZ _ _ _ _ h
theorem BJ0_charAt_5068e_24 {l : Launch} {G : gG} {A : Nat → Prop} {d : Nat} {post : Option gAV → gT → Prop} {Z : gK} (hZ : gSd l G A d 14 myJ0_charAt_5068e tbJ0_charAt_5068e post Z) {σ : gT} {t0 : Int32} (h : ((t0 : Int32).toUInt32 % 65536).toInt32 = t0 ∧ post (some (.inl t0)) σ) : Z 24 [none, none] [.inl t0] σ := hZ _ _ _ _ h
def tbJ0_coder_7d493 : gTb := [(0, [true], [(.getstatic 38, 3), (.ifCond .eq 10, 3), (.aload_n 0, 1), (.getfield 15, 3), (.goto 4, 3)]), (13, [false], [(.iconst 1, 1)]), (14, [false], [(.ireturn, 1)])]
theorem tbJ0_coder_7d493_ok : tbJ0_coder_7d493.all (fun e => gokl myJ0_coder_7d493.2.1 e.1 e.2.2) = true := by decide +kernel
theorem okJ0_coder_7d493 : plainFor myJ0_coder_7d493.1 = true ∧ myJ0_coder_7d493.1.cls = gcn 14 := by decide +kernel
theorem BJ0_coder_7d493_0 {l : Launch} {G : gG} {A : Nat → Prop} {d : Nat} {post : Option gAV → gT → Prop} {Z : gK} (hZ : gSd l G A d 14 myJ0_coder_7d493 tbJ0_coder_7d493 post Z) {σ : gT} {i0 : Nat} (h : ((1 : Int32) = 0 → Z 13 [none] [] σ) ∧ (¬ (1 : Int32) = 0 → Z 14 [none] [.inl (0 : Int32)] σ)) : Z 0 [some (.inr (.inr (50, i0)))] [] σ := hZ _ _ _ _ h
theorem BJ0_coder_7d493_13 {l : Launch} {G : gG} {A : Nat → Prop} {d : Nat} {post : Option gAV → gT → Prop} {Z : gK} (hZ : gSd l G A d 14 myJ0_coder_7d493 tbJ0_coder_7d493 post Z) {σ : gT}  (h : Z 14 [none] [.inl (1 : Int32)] σ) : Z 13 [none] [] σ := hZ _ _ _ _ h
theorem BJ0_coder_7d493_14 {l : Launch} {G : gG} {A : Nat → Prop} {d : Nat} {post : Option gAV → gT → Prop} {Z : gK} (hZ : gSd l G A d 14 myJ0_coder_7d493 tbJ0_coder_7d493 post Z) {σ : gT} {t0 : Int32} (h : (t0 : Int32).toInt8.toInt32 = t0 ∧ post (some (.inl t0)) σ) : Z 14 [none] [.inl t0] σ := hZ _ _ _ _ h
def tbJ0_isLatin1_aae02 : gTb := [(0, [true], [(.getstatic 38, 3), (.ifCond .eq 14, 3), (.aload_n 0, 1), (.getfield 15, 3), (.ifCond .ne 7, 3), (.iconst 1, 1), (.goto 4, 3)]), (17, [false], [(.iconst 0, 1)]), (18, [false], [(.ireturn, 1)])]
theorem tbJ0_isLatin1_aae02_ok : tbJ0_isLatin1_aae02.all (fun e => gokl myJ0_isLatin1_aae02.2.1 e.1 e.2.2) = true := by decide +kernel
theorem okJ0_isLatin1_aae02 : plainFor myJ0_isLatin1_aae02.1 = true ∧ myJ0_isLatin1_aae02.1.cls = gcn 14 := by decide +kernel
theorem BJ0_isLatin1_aae02_0 {l : Launch} {G : gG} {A : Nat → Prop} {d : Nat} {post : Option gAV → gT → Prop} {Z : gK} (hZ : gSd l G A d 14 myJ0_isLatin1_aae02 tbJ0_isLatin1_aae02 post Z) {σ : gT} {i0 : Nat} (h : ((1 : Int32) = 0 → Z 17 [none] [] σ) ∧ (¬ (1 : Int32) = 0 → (¬ (0 : Int32) = 0 → Z 17 [none] [] σ) ∧ ((0 : Int32) = 0 → Z 18 [none] [.inl (1 : Int32)] σ))) : Z 0 [some (.inr (.inr (50, i0)))] [] σ := hZ _ _ _ _ h
theorem BJ0_isLatin1_aae02_17 {l : Launch} {G : gG} {A : Nat → Prop} {d : Nat} {post : Option gAV → gT → Prop} {Z : gK} (hZ : gSd l G A d 14 myJ0_isLatin1_aae02 tbJ0_isLatin1_aae02 post Z) {σ : gT}  (h : Z 18 [none] [.inl (0 : Int32)] σ) : Z 17 [none] [] σ := hZ _ _ _ _ h
theorem BJ0_isLatin1_aae02_18 {l : Launch} {G : gG} {A : Nat → Prop} {d : Nat} {post : Option gAV → gT → Prop} {Z : gK} (hZ : gSd l G A d 14 myJ0_isLatin1_aae02 tbJ0_isLatin1_aae02 post Z) {σ : gT} {t0 : Int32} (h : (t0 = 0 ∨ t0 = 1) ∧ post (some (.inl t0)) σ) : Z 18 [none] [.inl t0] σ := hZ _ _ _ _ h
def tbJ0_checkIndex_df160 : gTb := [(0, [true, true], [(.iload_n 0, 1), (.iload_n 1, 1), (.getstatic 1053, 3), (.invokestatic 1059, 3)]), (8, [false, false], [(.pop, 1), (.return_, 1)])]
theorem tbJ0_checkIndex_df160_ok : tbJ0_checkIndex_df160.all (fun e => gokl myJ0_checkIndex_df160.2.1 e.1 e.2.2) = true := by decide +kernel
theorem okJ0_checkIndex_df160 : plainFor myJ0_checkIndex_df160.1 = true ∧ myJ0_checkIndex_df160.1.cls = gcn 14 := by decide +kernel
theorem BJ0_checkIndex_df160_0 {l : Launch} {G : gG} {A : Nat → Prop} {d : Nat} {post : Option gAV → gT → Prop} {Z : gK} (hZ : gSd l G A d 14 myJ0_checkIndex_df160 tbJ0_checkIndex_df160 post Z) {σ : gT} {x0 : Int32} {x1 : Int32} (h : gCx l G A d myJ3_checkIndex_8e157 [.inl x0, .inl x1, .inr (.inr (52, 0))] σ (fun r s2 => Z 8 [none, none] (r.toList ++ []) s2)) : Z 0 [some (.inl x0), some (.inl x1)] [] σ := hZ _ _ _ _ h
theorem BJ0_checkIndex_df160_8 {l : Launch} {G : gG} {A : Nat → Prop} {d : Nat} {post : Option gAV → gT → Prop} {Z : gK} (hZ : gSd l G A d 14 myJ0_checkIndex_df160 tbJ0_checkIndex_df160 post Z) {σ : gT} {t0 : Int32} (h : post none σ) : Z 8 [none, none] [.inl t0] σ := hZ _ _ _ _ h
def tbJ1_charAt_3b067 : gTb := [(0, [true, true], [(.iload_n 1, 1), (.aload_n 0, 1), (.arraylength, 1), (.invokestatic 9, 3)]), (6, [true, true], [(.aload_n 0, 1), (.iload_n 1, 1), (.baload, 1), (.sipush 255, 3), (.iand, 1), (.i2c, 1), (.ireturn, 1)])]
theorem tbJ1_charAt_3b067_ok : tbJ1_charAt_3b067.all (fun e => gokl myJ1_charAt_3b067.2.1 e.1 e.2.2) = true := by decide +kernel
theorem okJ1_charAt_3b067 : plainFor myJ1_charAt_3b067.1 = true ∧ myJ1_charAt_3b067.1.cls = gcn 15 := by decide +kernel
theorem BJ1_charAt_3b067_0 {l : Launch} {G : gG} {A : Nat → Prop} {d : Nat} {post : Option gAV → gT → Prop} {Z : gK} (hZ : gSd l G A d 15 myJ1_charAt_3b067 tbJ1_charAt_3b067 post Z) {σ : gT} {i0 : Nat} {x1 : Int32} (h : gCx l G A d myJ0_checkIndex_df160 [.inl x1, .inl (Int32.ofNat (gLen.getD i0 0))] σ (fun r s2 => Z 6 [some (.inr (.inr (51, i0))), some (.inl x1)] (r.toList ++ []) s2)) : Z 0 [some (.inr (.inr (51, i0))), some (.inl x1)] [] σ := hZ _ _ _ _ h
theorem BJ1_charAt_3b067_6 {l : Launch} {G : gG} {A : Nat → Prop} {d : Nat} {post : Option gAV → gT → Prop} {Z : gK} (hZ : gSd l G A d 15 myJ1_charAt_3b067 tbJ1_charAt_3b067 post Z) {σ : gT} {i0 : Nat} {x1 : Int32} (h : vp_in x1 (gLen.getD i0 0) ∧ (((((((gByt.getD i0 []).getD (x1 : Int32).toNatClampNeg 0) &&& (255 : Int32)) : Int32).toUInt32 % 65536).toInt32 : Int32).toUInt32 % 65536).toInt32 = (((((gByt.getD i0 []).getD (x1 : Int32).toNatClampNeg 0) &&& (255 : Int32)) : Int32).toUInt32 % 65536).toInt32 ∧ post (some (.inl (((((gByt.getD i0 []).getD (x1 : Int32).toNatClampNeg 0) &&& (255 : Int32)) : Int32).toUInt32 % 65536).toInt32)) σ) : Z 6 [some (.inr (.inr (51, i0))), some (.inl x1)] [] σ := hZ _ _ _ _ h
def tbJ7_fill_d0a16 : gTb := [(0, [true, true, false, false, false], [(.iconst 0, 1), (.istore_n 3, 1), (.aload_n 0, 1), (.arraylength, 1), (.istore 4, 2)]), (6, [true, true, false, true, true], [(.iload_n 3, 1), (.iload 4, 2), (.if_icmp .ge 13, 3), (.aload_n 0, 1), (.iload_n 3, 1), (.lload_n 1, 1), (.lastore, 1), (.iinc 3 1, 3), (.goto (-13), 3)]), (22, [false, false, false, false, false], [(.return_, 1)])]
theorem tbJ7_fill_d0a16_ok : tbJ7_fill_d0a16.all (fun e => gokl myJ7_fill_d0a16.2.1 e.1 e.2.2) = true := by decide +kernel
theorem okJ7_fill_d0a16 : plainFor myJ7_fill_d0a16.1 = true ∧ myJ7_fill_d0a16.1.cls = gcn 17 := by decide +kernel
theorem BJ7_fill_d0a16_f12_0 {l : Launch} {G : gG} {A : Nat → Prop} {d : Nat} {post : Option gAV → gT → Prop} {Z : gK} (hZ : gSd l G A d 17 myJ7_fill_d0a16 tbJ7_fill_d0a16 post Z) {σ : gT} {y1 : Int64} (h : Z 6 [some (.inr (.inr (12, 0))), some (.inr (.inl y1)), none, some (.inl (0 : Int32)), some (.inl (16 : Int32))] [] σ) : Z 0 [some (.inr (.inr (12, 0))), some (.inr (.inl y1)), none, none, none] [] σ := hZ _ _ _ _ h
theorem BJ7_fill_d0a16_f12_6 {l : Launch} {G : gG} {A : Nat → Prop} {d : Nat} {post : Option gAV → gT → Prop} {Z : gK} (hZ : gSd l G A d 17 myJ7_fill_d0a16 tbJ7_fill_d0a16 post Z) {σ : gT} {y1 : Int64} {x3 : Int32} {x4 : Int32} (h : (x4 ≤ x3 → Z 22 [none, none, none, none, none] [] σ) ∧ (¬ x4 ≤ x3 → vp_in x3 16 ∧ Z 6 [some (.inr (.inr (12, 0))), some (.inr (.inl y1)), none, some (.inl (x3 + (1 : Int32))), some (.inl x4)] [] (gsl σ 12 0 (x3 : Int32).toNatClampNeg y1))) : Z 6 [some (.inr (.inr (12, 0))), some (.inr (.inl y1)), none, some (.inl x3), some (.inl x4)] [] σ := hZ _ _ _ _ h
theorem BJ7_fill_d0a16_f12_22 {l : Launch} {G : gG} {A : Nat → Prop} {d : Nat} {post : Option gAV → gT → Prop} {Z : gK} (hZ : gSd l G A d 17 myJ7_fill_d0a16 tbJ7_fill_d0a16 post Z) {σ : gT}  (h : post none σ) : Z 22 [none, none, none, none, none] [] σ := hZ _ _ _ _ h
theorem BJ7_fill_d0a16_f13_0 {l : Launch} {G : gG} {A : Nat → Prop} {d : Nat} {post : Option gAV → gT → Prop} {Z : gK} (hZ : gSd l G A d 17 myJ7_fill_d0a16 tbJ7_fill_d0a16 post Z) {σ : gT} {y1 : Int64} (h : Z 6 [some (.inr (.inr (13, 0))), some (.inr (.inl y1)), none, some (.inl (0 : Int32)), some (.inl (16 : Int32))] [] σ) : Z 0 [some (.inr (.inr (13, 0))), some (.inr (.inl y1)), none, none, none] [] σ := hZ _ _ _ _ h
theorem BJ7_fill_d0a16_f13_6 {l : Launch} {G : gG} {A : Nat → Prop} {d : Nat} {post : Option gAV → gT → Prop} {Z : gK} (hZ : gSd l G A d 17 myJ7_fill_d0a16 tbJ7_fill_d0a16 post Z) {σ : gT} {y1 : Int64} {x3 : Int32} {x4 : Int32} (h : (x4 ≤ x3 → Z 22 [none, none, none, none, none] [] σ) ∧ (¬ x4 ≤ x3 → vp_in x3 16 ∧ Z 6 [some (.inr (.inr (13, 0))), some (.inr (.inl y1)), none, some (.inl (x3 + (1 : Int32))), some (.inl x4)] [] (gsl σ 13 0 (x3 : Int32).toNatClampNeg y1))) : Z 6 [some (.inr (.inr (13, 0))), some (.inr (.inl y1)), none, some (.inl x3), some (.inl x4)] [] σ := hZ _ _ _ _ h
theorem BJ7_fill_d0a16_f13_22 {l : Launch} {G : gG} {A : Nat → Prop} {d : Nat} {post : Option gAV → gT → Prop} {Z : gK} (hZ : gSd l G A d 17 myJ7_fill_d0a16 tbJ7_fill_d0a16 post Z) {σ : gT}  (h : post none σ) : Z 22 [none, none, none, none, none] [] σ := hZ _ _ _ _ h
def tbJ7_fill_53178 : gTb := [(0, [true, true, false, false], [(.iconst 0, 1), (.istore_n 2, 1), (.aload_n 0, 1), (.arraylength, 1), (.istore_n 3, 1)]), (5, [true, true, true, true], [(.iload_n 2, 1), (.iload_n 3, 1), (.if_icmp .ge 13, 3), (.aload_n 0, 1), (.iload_n 2, 1), (.iload_n 1, 1), (.iastore, 1), (.iinc 2 1, 3), (.goto (-12), 3)]), (20, [false, false, false, false], [(.return_, 1)])]
theorem tbJ7_fill_53178_ok : tbJ7_fill_53178.all (fun e => gokl myJ7_fill_53178.2.1 e.1 e.2.2) = true := by decide +kernel
theorem okJ7_fill_53178 : plainFor myJ7_fill_53178.1 = true ∧ myJ7_fill_53178.1.cls = gcn 17 := by decide +kernel
theorem BJ7_fill_53178_0 {l : Launch} {G : gG} {A : Nat → Prop} {d : Nat} {post : Option gAV → gT → Prop} {Z : gK} (hZ : gSd l G A d 17 myJ7_fill_53178 tbJ7_fill_53178 post Z) {σ : gT} {i0 : Nat} {x1 : Int32} (h : Z 5 [some (.inr (.inr (21, i0))), some (.inl x1), some (.inl (0 : Int32)), some (.inl (64 : Int32))] [] σ) : Z 0 [some (.inr (.inr (21, i0))), some (.inl x1), none, none] [] σ := hZ _ _ _ _ h
theorem BJ7_fill_53178_5 {l : Launch} {G : gG} {A : Nat → Prop} {d : Nat} {post : Option gAV → gT → Prop} {Z : gK} (hZ : gSd l G A d 17 myJ7_fill_53178 tbJ7_fill_53178 post Z) {σ : gT} {i0 : Nat} {x1 : Int32} {x2 : Int32} {x3 : Int32} (h : (x3 ≤ x2 → Z 20 [none, none, none, none] [] σ) ∧ (¬ x3 ≤ x2 → vp_in x2 64 ∧ Z 5 [some (.inr (.inr (21, i0))), some (.inl x1), some (.inl (x2 + (1 : Int32))), some (.inl x3)] [] (gsu σ 21 i0 (x2 : Int32).toNatClampNeg x1))) : Z 5 [some (.inr (.inr (21, i0))), some (.inl x1), some (.inl x2), some (.inl x3)] [] σ := hZ _ _ _ _ h
theorem BJ7_fill_53178_20 {l : Launch} {G : gG} {A : Nat → Prop} {d : Nat} {post : Option gAV → gT → Prop} {Z : gK} (hZ : gSd l G A d 17 myJ7_fill_53178 tbJ7_fill_53178 post Z) {σ : gT}  (h : post none σ) : Z 20 [none, none, none, none] [] σ := hZ _ _ _ _ h
def tbJ3_checkIndex_8e157 : gTb := [(0, [true, true, true], [(.iload_n 0, 1), (.ifCond .lt 8, 3), (.iload_n 0, 1), (.iload_n 1, 1), (.if_icmp .lt 10, 3)]), (9, [true, true, true], [(.aload_n 2, 1), (.iload_n 0, 1), (.iload_n 1, 1), (.invokestatic 95, 3)]), (15, [false, false, false], [(.athrow, 1)]), (16, [true, false, false], [(.iload_n 0, 1), (.ireturn, 1)])]
theorem tbJ3_checkIndex_8e157_ok : tbJ3_checkIndex_8e157.all (fun e => gokl myJ3_checkIndex_8e157.2.1 e.1 e.2.2) = true := by decide +kernel
theorem okJ3_checkIndex_8e157 : plainFor myJ3_checkIndex_8e157.1 = true ∧ myJ3_checkIndex_8e157.1.cls = gcn 18 := by decide +kernel
theorem BJ3_checkIndex_8e157_0 {l : Launch} {G : gG} {A : Nat → Prop} {d : Nat} {post : Option gAV → gT → Prop} {Z : gK} (hZ : gSd l G A d 18 myJ3_checkIndex_8e157 tbJ3_checkIndex_8e157 post Z) {σ : gT} {x0 : Int32} {x1 : Int32} (h : (x0 < 0 → Z 9 [some (.inl x0), some (.inl x1), some (.inr (.inr (52, 0)))] [] σ) ∧ (¬ x0 < 0 → (x0 < x1 → Z 16 [some (.inl x0), none, none] [] σ) ∧ (¬ x0 < x1 → Z 9 [some (.inl x0), some (.inl x1), some (.inr (.inr (52, 0)))] [] σ))) : Z 0 [some (.inl x0), some (.inl x1), some (.inr (.inr (52, 0)))] [] σ := hZ _ _ _ _ h
theorem BJ3_checkIndex_8e157_9 {l : Launch} {G : gG} {A : Nat → Prop} {d : Nat} {post : Option gAV → gT → Prop} {Z : gK} (hZ : gSd l G A d 18 myJ3_checkIndex_8e157 tbJ3_checkIndex_8e157 post Z) {σ : gT} {x0 : Int32} {x1 : Int32} (h : False) : Z 9 [some (.inl x0), some (.inl x1), some (.inr (.inr (52, 0)))] [] σ := hZ _ _ _ _ h
theorem BJ3_checkIndex_8e157_16 {l : Launch} {G : gG} {A : Nat → Prop} {d : Nat} {post : Option gAV → gT → Prop} {Z : gK} (hZ : gSd l G A d 18 myJ3_checkIndex_8e157 tbJ3_checkIndex_8e157 post Z) {σ : gT} {x0 : Int32} (h : post (some (.inl x0)) σ) : Z 16 [some (.inl x0), none, none] [] σ := hZ _ _ _ _ h
end
section
/-! the code in blocks, and what each block asks -/
def tbX0_forget : gTb := [(0, [true], [(.aload_n 0, 1), (.iconst 0, 1), (.putfield 15, 3), (.return_, 1)])]
theorem tbX0_forget_ok : tbX0_forget.all (fun e => gokl myX0_forget.2.1 e.1 e.2.2) = true := by decide +kernel
theorem okX0_forget : plainFor myX0_forget.1 = true ∧ myX0_forget.1.cls = gcn 0 := by decide +kernel
theorem BX0_forget_0 {l : Launch} {G : gG} {A : Nat → Prop} {d : Nat} {post : Option gAV → gT → Prop} {Z : gK} (hZ : gSd l G A d 0 myX0_forget tbX0_forget post Z) {σ : gT}  (h : post none (gsu σ 0 0 1 (0 : Int32))) : Z 0 [some (.inr (.inr (0, 0)))] [] σ := hZ _ _ _ _ h
def tbX0_begin : gTb := [(0, [true, true], [(.aload_n 0, 1), (.getfield 15, 3), (.bipush 16, 2), (.if_icmp .ge 23, 3), (.aload_n 0, 1), (.getfield 11, 3), (.aload_n 0, 1), (.getfield 15, 3), (.iload_n 1, 1), (.iastore, 1), (.aload_n 0, 1), (.dup, 1), (.getfield 15, 3), (.iconst 1, 1), (.iadd, 1), (.putfield 15, 3)]), (29, [false, false], [(.return_, 1)])]
theorem tbX0_begin_ok : tbX0_begin.all (fun e => gokl myX0_begin.2.1 e.1 e.2.2) = true := by decide +kernel
theorem okX0_begin : plainFor myX0_begin.1 = true ∧ myX0_begin.1.cls = gcn 0 := by decide +kernel
theorem BX0_begin_0 {l : Launch} {G : gG} {A : Nat → Prop} {d : Nat} {post : Option gAV → gT → Prop} {Z : gK} (hZ : gSd l G A d 0 myX0_begin tbX0_begin post Z) {σ : gT} {x1 : Int32} (h : ((16 : Int32) ≤ (σ.1 0 0 1) → Z 29 [none, none] [] σ) ∧ (¬ (16 : Int32) ≤ (σ.1 0 0 1) → vp_in (σ.1 0 0 1) 16 ∧ Z 29 [none, none] [] (gsu (gsu σ 11 0 ((σ.1 0 0 1) : Int32).toNatClampNeg x1) 0 0 1 (((gsu σ 11 0 ((σ.1 0 0 1) : Int32).toNatClampNeg x1).1 0 0 1) + (1 : Int32))))) : Z 0 [some (.inr (.inr (0, 0))), some (.inl x1)] [] σ := hZ _ _ _ _ h
theorem BX0_begin_29 {l : Launch} {G : gG} {A : Nat → Prop} {d : Nat} {post : Option gAV → gT → Prop} {Z : gK} (hZ : gSd l G A d 0 myX0_begin tbX0_begin post Z) {σ : gT}  (h : post none σ) : Z 29 [none, none] [] σ := hZ _ _ _ _ h
def tbX0_sizeAsked : gTb := [(0, [true, true, true], [(.iload_n 2, 1), (.bipush 8, 2), (.if_icmp .le 5, 3), (.iconst 0, 1), (.ireturn, 1)]), (8, [true, true, true], [(.aload_n 1, 1), (.invokevirtual 19, 3)]), (12, [true, true, true], [(.tableswitch 58 1 4 #[32, 38, 44, 51], 32)]), (44, [true, true, false], [(.aload_n 0, 1), (.aload_n 1, 1), (.invokevirtual 25, 3)]), (49, [false, false, false], [(.ireturn, 1)]), (50, [true, true, false], [(.aload_n 0, 1), (.aload_n 1, 1), (.invokevirtual 29, 3)]), (55, [false, false, false], [(.ireturn, 1)]), (56, [true, true, true], [(.aload_n 0, 1), (.aload_n 1, 1), (.iload_n 2, 1), (.invokevirtual 32, 3)]), (62, [false, false, false], [(.ireturn, 1)]), (63, [true, true, true], [(.aload_n 0, 1), (.aload_n 1, 1), (.iload_n 2, 1), (.invokevirtual 36, 3)]), (69, [false, false, false], [(.ireturn, 1)]), (70, [true, true, false], [(.aload_n 0, 1), (.aload_n 1, 1), (.invokevirtual 39, 3)]), (75, [false, false, false], [(.ireturn, 1)])]
theorem tbX0_sizeAsked_ok : tbX0_sizeAsked.all (fun e => gokl myX0_sizeAsked.2.1 e.1 e.2.2) = true := by decide +kernel
theorem okX0_sizeAsked : plainFor myX0_sizeAsked.1 = true ∧ myX0_sizeAsked.1.cls = gcn 0 := by decide +kernel
theorem BX0_sizeAsked_0 {l : Launch} {G : gG} {A : Nat → Prop} {d : Nat} {post : Option gAV → gT → Prop} {Z : gK} (hZ : gSd l G A d 0 myX0_sizeAsked tbX0_sizeAsked post Z) {σ : gT} {i1 : Nat} {x2 : Int32} (h : (x2 ≤ (8 : Int32) → Z 8 [some (.inr (.inr (0, 0))), some (.inr (.inr (3, i1))), some (.inl x2)] [] σ) ∧ (¬ x2 ≤ (8 : Int32) → post (some (.inl (0 : Int32))) σ)) : Z 0 [some (.inr (.inr (0, 0))), some (.inr (.inr (3, i1))), some (.inl x2)] [] σ := hZ _ _ _ _ h
theorem BX0_sizeAsked_8 {l : Launch} {G : gG} {A : Nat → Prop} {d : Nat} {post : Option gAV → gT → Prop} {Z : gK} (hZ : gSd l G A d 0 myX0_sizeAsked tbX0_sizeAsked post Z) {σ : gT} {i1 : Nat} {x2 : Int32} (h : gCx l G A d myX3_kindTold [.inr (.inr (3, i1))] σ (fun r s2 => Z 12 [some (.inr (.inr (0, 0))), some (.inr (.inr (3, i1))), some (.inl x2)] (r.toList ++ []) s2)) : Z 8 [some (.inr (.inr (0, 0))), some (.inr (.inr (3, i1))), some (.inl x2)] [] σ := hZ _ _ _ _ h
theorem BX0_sizeAsked_12 {l : Launch} {G : gG} {A : Nat → Prop} {d : Nat} {post : Option gAV → gT → Prop} {Z : gK} (hZ : gSd l G A d 0 myX0_sizeAsked tbX0_sizeAsked post Z) {σ : gT} {i1 : Nat} {x2 : Int32} {t0 : Int32} (h : ((t0 : Int32).toInt < 1 ∨ 4 < (t0 : Int32).toInt → Z 70 [some (.inr (.inr (0, 0))), some (.inr (.inr (3, i1))), none] [] σ) ∧ ((t0 : Int32).toInt = 1 → Z 44 [some (.inr (.inr (0, 0))), some (.inr (.inr (3, i1))), none] [] σ) ∧ ((t0 : Int32).toInt = 2 → Z 50 [some (.inr (.inr (0, 0))), some (.inr (.inr (3, i1))), none] [] σ) ∧ ((t0 : Int32).toInt = 3 → Z 56 [some (.inr (.inr (0, 0))), some (.inr (.inr (3, i1))), some (.inl x2)] [] σ) ∧ ((t0 : Int32).toInt = 4 → Z 63 [some (.inr (.inr (0, 0))), some (.inr (.inr (3, i1))), some (.inl x2)] [] σ) ∧ True) : Z 12 [some (.inr (.inr (0, 0))), some (.inr (.inr (3, i1))), some (.inl x2)] [.inl t0] σ := hZ _ _ _ _ h
theorem BX0_sizeAsked_44 {l : Launch} {G : gG} {A : Nat → Prop} {d : Nat} {post : Option gAV → gT → Prop} {Z : gK} (hZ : gSd l G A d 0 myX0_sizeAsked tbX0_sizeAsked post Z) {σ : gT} {i1 : Nat} (h : gCx l G A d myX0_sizeOfClear [.inr (.inr (0, 0)), .inr (.inr (3, i1))] σ (fun r s2 => Z 49 [none, none, none] (r.toList ++ []) s2)) : Z 44 [some (.inr (.inr (0, 0))), some (.inr (.inr (3, i1))), none] [] σ := hZ _ _ _ _ h
theorem BX0_sizeAsked_49 {l : Launch} {G : gG} {A : Nat → Prop} {d : Nat} {post : Option gAV → gT → Prop} {Z : gK} (hZ : gSd l G A d 0 myX0_sizeAsked tbX0_sizeAsked post Z) {σ : gT} {t0 : Int32} (h : post (some (.inl t0)) σ) : Z 49 [none, none, none] [.inl t0] σ := hZ _ _ _ _ h
theorem BX0_sizeAsked_50 {l : Launch} {G : gG} {A : Nat → Prop} {d : Nat} {post : Option gAV → gT → Prop} {Z : gK} (hZ : gSd l G A d 0 myX0_sizeAsked tbX0_sizeAsked post Z) {σ : gT} {i1 : Nat} (h : gCx l G A d myX0_sizeOfFully [.inr (.inr (0, 0)), .inr (.inr (3, i1))] σ (fun r s2 => Z 55 [none, none, none] (r.toList ++ []) s2)) : Z 50 [some (.inr (.inr (0, 0))), some (.inr (.inr (3, i1))), none] [] σ := hZ _ _ _ _ h
theorem BX0_sizeAsked_55 {l : Launch} {G : gG} {A : Nat → Prop} {d : Nat} {post : Option gAV → gT → Prop} {Z : gK} (hZ : gSd l G A d 0 myX0_sizeAsked tbX0_sizeAsked post Z) {σ : gT} {t0 : Int32} (h : post (some (.inl t0)) σ) : Z 55 [none, none, none] [.inl t0] σ := hZ _ _ _ _ h
theorem BX0_sizeAsked_56 {l : Launch} {G : gG} {A : Nat → Prop} {d : Nat} {post : Option gAV → gT → Prop} {Z : gK} (hZ : gSd l G A d 0 myX0_sizeAsked tbX0_sizeAsked post Z) {σ : gT} {i1 : Nat} {x2 : Int32} (h : gCx l G A d myX0_sizeOfTorn [.inr (.inr (0, 0)), .inr (.inr (3, i1)), .inl x2] σ (fun r s2 => Z 62 [none, none, none] (r.toList ++ []) s2)) : Z 56 [some (.inr (.inr (0, 0))), some (.inr (.inr (3, i1))), some (.inl x2)] [] σ := hZ _ _ _ _ h
theorem BX0_sizeAsked_62 {l : Launch} {G : gG} {A : Nat → Prop} {d : Nat} {post : Option gAV → gT → Prop} {Z : gK} (hZ : gSd l G A d 0 myX0_sizeAsked tbX0_sizeAsked post Z) {σ : gT} {t0 : Int32} (h : post (some (.inl t0)) σ) : Z 62 [none, none, none] [.inl t0] σ := hZ _ _ _ _ h
theorem BX0_sizeAsked_63 {l : Launch} {G : gG} {A : Nat → Prop} {d : Nat} {post : Option gAV → gT → Prop} {Z : gK} (hZ : gSd l G A d 0 myX0_sizeAsked tbX0_sizeAsked post Z) {σ : gT} {i1 : Nat} {x2 : Int32} (h : gCx l G A d myX0_sizeOfBlind [.inr (.inr (0, 0)), .inr (.inr (3, i1)), .inl x2] σ (fun r s2 => Z 69 [none, none, none] (r.toList ++ []) s2)) : Z 63 [some (.inr (.inr (0, 0))), some (.inr (.inr (3, i1))), some (.inl x2)] [] σ := hZ _ _ _ _ h
theorem BX0_sizeAsked_69 {l : Launch} {G : gG} {A : Nat → Prop} {d : Nat} {post : Option gAV → gT → Prop} {Z : gK} (hZ : gSd l G A d 0 myX0_sizeAsked tbX0_sizeAsked post Z) {σ : gT} {t0 : Int32} (h : post (some (.inl t0)) σ) : Z 69 [none, none, none] [.inl t0] σ := hZ _ _ _ _ h
theorem BX0_sizeAsked_70 {l : Launch} {G : gG} {A : Nat → Prop} {d : Nat} {post : Option gAV → gT → Prop} {Z : gK} (hZ : gSd l G A d 0 myX0_sizeAsked tbX0_sizeAsked post Z) {σ : gT} {i1 : Nat} (h : gCx l G A d myX0_sizeLent [.inr (.inr (0, 0)), .inr (.inr (3, i1))] σ (fun r s2 => Z 75 [none, none, none] (r.toList ++ []) s2)) : Z 70 [some (.inr (.inr (0, 0))), some (.inr (.inr (3, i1))), none] [] σ := hZ _ _ _ _ h
theorem BX0_sizeAsked_75 {l : Launch} {G : gG} {A : Nat → Prop} {d : Nat} {post : Option gAV → gT → Prop} {Z : gK} (hZ : gSd l G A d 0 myX0_sizeAsked tbX0_sizeAsked post Z) {σ : gT} {t0 : Int32} (h : post (some (.inl t0)) σ) : Z 75 [none, none, none] [.inl t0] σ := hZ _ _ _ _ h
def tbX0_markAsked : gTb := [(0, [true, true, true], [(.iload_n 2, 1), (.bipush 8, 2), (.if_icmp .le 5, 3), (.iconst 0, 1), (.ireturn, 1)]), (8, [true, true, true], [(.aload_n 1, 1), (.invokevirtual 19, 3)]), (12, [true, true, true], [(.tableswitch 51 1 4 #[32, 38, 45, 45], 32)]), (44, [true, true, false], [(.aload_n 0, 1), (.aload_n 1, 1), (.invokevirtual 42, 3)]), (49, [false, false, false], [(.ireturn, 1)]), (50, [true, true, true], [(.aload_n 0, 1), (.aload_n 1, 1), (.iload_n 2, 1), (.invokevirtual 45, 3)]), (56, [false, false, false], [(.ireturn, 1)]), (57, [true, true, false], [(.aload_n 0, 1), (.aload_n 1, 1), (.invokevirtual 48, 3)]), (62, [false, false, false], [(.ireturn, 1)]), (63, [true, true, false], [(.aload_n 0, 1), (.aload_n 1, 1), (.invokevirtual 51, 3)]), (68, [false, false, false], [(.ireturn, 1)])]
theorem tbX0_markAsked_ok : tbX0_markAsked.all (fun e => gokl myX0_markAsked.2.1 e.1 e.2.2) = true := by decide +kernel
theorem okX0_markAsked : plainFor myX0_markAsked.1 = true ∧ myX0_markAsked.1.cls = gcn 0 := by decide +kernel
theorem BX0_markAsked_0 {l : Launch} {G : gG} {A : Nat → Prop} {d : Nat} {post : Option gAV → gT → Prop} {Z : gK} (hZ : gSd l G A d 0 myX0_markAsked tbX0_markAsked post Z) {σ : gT} {i1 : Nat} {x2 : Int32} (h : (x2 ≤ (8 : Int32) → Z 8 [some (.inr (.inr (0, 0))), some (.inr (.inr (3, i1))), some (.inl x2)] [] σ) ∧ (¬ x2 ≤ (8 : Int32) → post (some (.inl (0 : Int32))) σ)) : Z 0 [some (.inr (.inr (0, 0))), some (.inr (.inr (3, i1))), some (.inl x2)] [] σ := hZ _ _ _ _ h
theorem BX0_markAsked_8 {l : Launch} {G : gG} {A : Nat → Prop} {d : Nat} {post : Option gAV → gT → Prop} {Z : gK} (hZ : gSd l G A d 0 myX0_markAsked tbX0_markAsked post Z) {σ : gT} {i1 : Nat} {x2 : Int32} (h : gCx l G A d myX3_kindTold [.inr (.inr (3, i1))] σ (fun r s2 => Z 12 [some (.inr (.inr (0, 0))), some (.inr (.inr (3, i1))), some (.inl x2)] (r.toList ++ []) s2)) : Z 8 [some (.inr (.inr (0, 0))), some (.inr (.inr (3, i1))), some (.inl x2)] [] σ := hZ _ _ _ _ h
theorem BX0_markAsked_12 {l : Launch} {G : gG} {A : Nat → Prop} {d : Nat} {post : Option gAV → gT → Prop} {Z : gK} (hZ : gSd l G A d 0 myX0_markAsked tbX0_markAsked post Z) {σ : gT} {i1 : Nat} {x2 : Int32} {t0 : Int32} (h : ((t0 : Int32).toInt < 1 ∨ 4 < (t0 : Int32).toInt → Z 63 [some (.inr (.inr (0, 0))), some (.inr (.inr (3, i1))), none] [] σ) ∧ ((t0 : Int32).toInt = 1 → Z 44 [some (.inr (.inr (0, 0))), some (.inr (.inr (3, i1))), none] [] σ) ∧ ((t0 : Int32).toInt = 2 → Z 50 [some (.inr (.inr (0, 0))), some (.inr (.inr (3, i1))), some (.inl x2)] [] σ) ∧ ((t0 : Int32).toInt = 3 → Z 57 [some (.inr (.inr (0, 0))), some (.inr (.inr (3, i1))), none] [] σ) ∧ ((t0 : Int32).toInt = 4 → Z 57 [some (.inr (.inr (0, 0))), some (.inr (.inr (3, i1))), none] [] σ) ∧ True) : Z 12 [some (.inr (.inr (0, 0))), some (.inr (.inr (3, i1))), some (.inl x2)] [.inl t0] σ := hZ _ _ _ _ h
theorem BX0_markAsked_44 {l : Launch} {G : gG} {A : Nat → Prop} {d : Nat} {post : Option gAV → gT → Prop} {Z : gK} (hZ : gSd l G A d 0 myX0_markAsked tbX0_markAsked post Z) {σ : gT} {i1 : Nat} (h : gCx l G A d myX0_markOfClear [.inr (.inr (0, 0)), .inr (.inr (3, i1))] σ (fun r s2 => Z 49 [none, none, none] (r.toList ++ []) s2)) : Z 44 [some (.inr (.inr (0, 0))), some (.inr (.inr (3, i1))), none] [] σ := hZ _ _ _ _ h
theorem BX0_markAsked_49 {l : Launch} {G : gG} {A : Nat → Prop} {d : Nat} {post : Option gAV → gT → Prop} {Z : gK} (hZ : gSd l G A d 0 myX0_markAsked tbX0_markAsked post Z) {σ : gT} {t0 : Int32} (h : post (some (.inl t0)) σ) : Z 49 [none, none, none] [.inl t0] σ := hZ _ _ _ _ h
theorem BX0_markAsked_50 {l : Launch} {G : gG} {A : Nat → Prop} {d : Nat} {post : Option gAV → gT → Prop} {Z : gK} (hZ : gSd l G A d 0 myX0_markAsked tbX0_markAsked post Z) {σ : gT} {i1 : Nat} {x2 : Int32} (h : gCx l G A d myX0_markOfFully [.inr (.inr (0, 0)), .inr (.inr (3, i1)), .inl x2] σ (fun r s2 => Z 56 [none, none, none] (r.toList ++ []) s2)) : Z 50 [some (.inr (.inr (0, 0))), some (.inr (.inr (3, i1))), some (.inl x2)] [] σ := hZ _ _ _ _ h
theorem BX0_markAsked_56 {l : Launch} {G : gG} {A : Nat → Prop} {d : Nat} {post : Option gAV → gT → Prop} {Z : gK} (hZ : gSd l G A d 0 myX0_markAsked tbX0_markAsked post Z) {σ : gT} {t0 : Int32} (h : post (some (.inl t0)) σ) : Z 56 [none, none, none] [.inl t0] σ := hZ _ _ _ _ h
theorem BX0_markAsked_57 {l : Launch} {G : gG} {A : Nat → Prop} {d : Nat} {post : Option gAV → gT → Prop} {Z : gK} (hZ : gSd l G A d 0 myX0_markAsked tbX0_markAsked post Z) {σ : gT} {i1 : Nat} (h : gCx l G A d myX0_markOfTorn [.inr (.inr (0, 0)), .inr (.inr (3, i1))] σ (fun r s2 => Z 62 [none, none, none] (r.toList ++ []) s2)) : Z 57 [some (.inr (.inr (0, 0))), some (.inr (.inr (3, i1))), none] [] σ := hZ _ _ _ _ h
theorem BX0_markAsked_62 {l : Launch} {G : gG} {A : Nat → Prop} {d : Nat} {post : Option gAV → gT → Prop} {Z : gK} (hZ : gSd l G A d 0 myX0_markAsked tbX0_markAsked post Z) {σ : gT} {t0 : Int32} (h : post (some (.inl t0)) σ) : Z 62 [none, none, none] [.inl t0] σ := hZ _ _ _ _ h
theorem BX0_markAsked_63 {l : Launch} {G : gG} {A : Nat → Prop} {d : Nat} {post : Option gAV → gT → Prop} {Z : gK} (hZ : gSd l G A d 0 myX0_markAsked tbX0_markAsked post Z) {σ : gT} {i1 : Nat} (h : gCx l G A d myX0_markLent [.inr (.inr (0, 0)), .inr (.inr (3, i1))] σ (fun r s2 => Z 68 [none, none, none] (r.toList ++ []) s2)) : Z 63 [some (.inr (.inr (0, 0))), some (.inr (.inr (3, i1))), none] [] σ := hZ _ _ _ _ h
theorem BX0_markAsked_68 {l : Launch} {G : gG} {A : Nat → Prop} {d : Nat} {post : Option gAV → gT → Prop} {Z : gK} (hZ : gSd l G A d 0 myX0_markAsked tbX0_markAsked post Z) {σ : gT} {t0 : Int32} (h : post (some (.inl t0)) σ) : Z 68 [none, none, none] [.inl t0] σ := hZ _ _ _ _ h
def tbX0_sizeLent : gTb := [(0, [true, true], [(.aload_n 0, 1), (.bipush 10, 2), (.invokevirtual 54, 3)]), (6, [false, true], [(.aload_n 1, 1), (.invokevirtual 58, 3)]), (10, [false, false], [(.ireturn, 1)])]
theorem tbX0_sizeLent_ok : tbX0_sizeLent.all (fun e => gokl myX0_sizeLent.2.1 e.1 e.2.2) = true := by decide +kernel
theorem okX0_sizeLent : plainFor myX0_sizeLent.1 = true ∧ myX0_sizeLent.1.cls = gcn 0 := by decide +kernel
theorem BX0_sizeLent_0 {l : Launch} {G : gG} {A : Nat → Prop} {d : Nat} {post : Option gAV → gT → Prop} {Z : gK} (hZ : gSd l G A d 0 myX0_sizeLent tbX0_sizeLent post Z) {σ : gT} {i1 : Nat} (h : gCx l G A d myX0_begin [.inr (.inr (0, 0)), .inl (10 : Int32)] σ (fun r s2 => Z 6 [none, some (.inr (.inr (3, i1)))] (r.toList ++ []) s2)) : Z 0 [some (.inr (.inr (0, 0))), some (.inr (.inr (3, i1)))] [] σ := hZ _ _ _ _ h
theorem BX0_sizeLent_6 {l : Launch} {G : gG} {A : Nat → Prop} {d : Nat} {post : Option gAV → gT → Prop} {Z : gK} (hZ : gSd l G A d 0 myX0_sizeLent tbX0_sizeLent post Z) {σ : gT} {i1 : Nat} (h : gCx l G A d myX3_total [.inr (.inr (3, i1))] σ (fun r s2 => Z 10 [none, none] (r.toList ++ []) s2)) : Z 6 [none, some (.inr (.inr (3, i1)))] [] σ := hZ _ _ _ _ h
theorem BX0_sizeLent_10 {l : Launch} {G : gG} {A : Nat → Prop} {d : Nat} {post : Option gAV → gT → Prop} {Z : gK} (hZ : gSd l G A d 0 myX0_sizeLent tbX0_sizeLent post Z) {σ : gT} {t0 : Int32} (h : post (some (.inl t0)) σ) : Z 10 [none, none] [.inl t0] σ := hZ _ _ _ _ h
def tbX0_sizeOfClear : gTb := [(0, [true, true], [(.aload_n 0, 1), (.bipush 11, 2), (.invokevirtual 54, 3)]), (6, [true, true], [(.aload_n 0, 1), (.aload_n 1, 1), (.invokevirtual 39, 3)]), (11, [false, true], [(.aload_n 1, 1), (.getfield 61, 3), (.iadd, 1), (.ireturn, 1)])]
theorem tbX0_sizeOfClear_ok : tbX0_sizeOfClear.all (fun e => gokl myX0_sizeOfClear.2.1 e.1 e.2.2) = true := by decide +kernel
theorem okX0_sizeOfClear : plainFor myX0_sizeOfClear.1 = true ∧ myX0_sizeOfClear.1.cls = gcn 0 := by decide +kernel
theorem BX0_sizeOfClear_0 {l : Launch} {G : gG} {A : Nat → Prop} {d : Nat} {post : Option gAV → gT → Prop} {Z : gK} (hZ : gSd l G A d 0 myX0_sizeOfClear tbX0_sizeOfClear post Z) {σ : gT} {i1 : Nat} (h : gCx l G A d myX0_begin [.inr (.inr (0, 0)), .inl (11 : Int32)] σ (fun r s2 => Z 6 [some (.inr (.inr (0, 0))), some (.inr (.inr (3, i1)))] (r.toList ++ []) s2)) : Z 0 [some (.inr (.inr (0, 0))), some (.inr (.inr (3, i1)))] [] σ := hZ _ _ _ _ h
theorem BX0_sizeOfClear_6 {l : Launch} {G : gG} {A : Nat → Prop} {d : Nat} {post : Option gAV → gT → Prop} {Z : gK} (hZ : gSd l G A d 0 myX0_sizeOfClear tbX0_sizeOfClear post Z) {σ : gT} {i1 : Nat} (h : gCx l G A d myX0_sizeLent [.inr (.inr (0, 0)), .inr (.inr (3, i1))] σ (fun r s2 => Z 11 [none, some (.inr (.inr (3, i1)))] (r.toList ++ []) s2)) : Z 6 [some (.inr (.inr (0, 0))), some (.inr (.inr (3, i1)))] [] σ := hZ _ _ _ _ h
theorem BX0_sizeOfClear_11 {l : Launch} {G : gG} {A : Nat → Prop} {d : Nat} {post : Option gAV → gT → Prop} {Z : gK} (hZ : gSd l G A d 0 myX0_sizeOfClear tbX0_sizeOfClear post Z) {σ : gT} {i1 : Nat} {t0 : Int32} (h : post (some (.inl (t0 + (σ.1 3 i1 1)))) σ) : Z 11 [none, some (.inr (.inr (3, i1)))] [.inl t0] σ := hZ _ _ _ _ h
def tbX0_sizeOfFully : gTb := [(0, [true, true], [(.aload_n 0, 1), (.bipush 12, 2), (.invokevirtual 54, 3)]), (6, [true, true], [(.iconst 2, 1), (.aload_n 0, 1), (.aload_n 1, 1), (.invokevirtual 25, 3)]), (12, [false, false], [(.imul, 1), (.ireturn, 1)])]
theorem tbX0_sizeOfFully_ok : tbX0_sizeOfFully.all (fun e => gokl myX0_sizeOfFully.2.1 e.1 e.2.2) = true := by decide +kernel
theorem okX0_sizeOfFully : plainFor myX0_sizeOfFully.1 = true ∧ myX0_sizeOfFully.1.cls = gcn 0 := by decide +kernel
theorem BX0_sizeOfFully_0 {l : Launch} {G : gG} {A : Nat → Prop} {d : Nat} {post : Option gAV → gT → Prop} {Z : gK} (hZ : gSd l G A d 0 myX0_sizeOfFully tbX0_sizeOfFully post Z) {σ : gT} {i1 : Nat} (h : gCx l G A d myX0_begin [.inr (.inr (0, 0)), .inl (12 : Int32)] σ (fun r s2 => Z 6 [some (.inr (.inr (0, 0))), some (.inr (.inr (3, i1)))] (r.toList ++ []) s2)) : Z 0 [some (.inr (.inr (0, 0))), some (.inr (.inr (3, i1)))] [] σ := hZ _ _ _ _ h
theorem BX0_sizeOfFully_6 {l : Launch} {G : gG} {A : Nat → Prop} {d : Nat} {post : Option gAV → gT → Prop} {Z : gK} (hZ : gSd l G A d 0 myX0_sizeOfFully tbX0_sizeOfFully post Z) {σ : gT} {i1 : Nat} (h : gCx l G A d myX0_sizeOfClear [.inr (.inr (0, 0)), .inr (.inr (3, i1))] σ (fun r s2 => Z 12 [none, none] (r.toList ++ [.inl (2 : Int32)]) s2)) : Z 6 [some (.inr (.inr (0, 0))), some (.inr (.inr (3, i1)))] [] σ := hZ _ _ _ _ h
theorem BX0_sizeOfFully_12 {l : Launch} {G : gG} {A : Nat → Prop} {d : Nat} {post : Option gAV → gT → Prop} {Z : gK} (hZ : gSd l G A d 0 myX0_sizeOfFully tbX0_sizeOfFully post Z) {σ : gT} {t0 : Int32} {t1 : Int32} (h : post (some (.inl (t1 * t0))) σ) : Z 12 [none, none] [.inl t0, .inl t1] σ := hZ _ _ _ _ h
def tbX0_sizeOfTorn : gTb := [(0, [true, true, true, false], [(.aload_n 0, 1), (.bipush 13, 2), (.invokevirtual 54, 3)]), (6, [true, true, true, false], [(.aload_n 0, 1), (.aload_n 1, 1), (.invokevirtual 39, 3)]), (11, [true, true, true, false], [(.istore_n 3, 1), (.iload_n 3, 1), (.aload_n 0, 1), (.aload_n 1, 1), (.iload_n 2, 1), (.iconst 1, 1), (.iadd, 1), (.invokevirtual 64, 3)]), (21, [false, false, false, false], [(.isub, 1), (.ireturn, 1)])]
theorem tbX0_sizeOfTorn_ok : tbX0_sizeOfTorn.all (fun e => gokl myX0_sizeOfTorn.2.1 e.1 e.2.2) = true := by decide +kernel
theorem okX0_sizeOfTorn : plainFor myX0_sizeOfTorn.1 = true ∧ myX0_sizeOfTorn.1.cls = gcn 0 := by decide +kernel
theorem BX0_sizeOfTorn_0 {l : Launch} {G : gG} {A : Nat → Prop} {d : Nat} {post : Option gAV → gT → Prop} {Z : gK} (hZ : gSd l G A d 0 myX0_sizeOfTorn tbX0_sizeOfTorn post Z) {σ : gT} {i1 : Nat} {x2 : Int32} (h : gCx l G A d myX0_begin [.inr (.inr (0, 0)), .inl (13 : Int32)] σ (fun r s2 => Z 6 [some (.inr (.inr (0, 0))), some (.inr (.inr (3, i1))), some (.inl x2), none] (r.toList ++ []) s2)) : Z 0 [some (.inr (.inr (0, 0))), some (.inr (.inr (3, i1))), some (.inl x2), none] [] σ := hZ _ _ _ _ h
theorem BX0_sizeOfTorn_6 {l : Launch} {G : gG} {A : Nat → Prop} {d : Nat} {post : Option gAV → gT → Prop} {Z : gK} (hZ : gSd l G A d 0 myX0_sizeOfTorn tbX0_sizeOfTorn post Z) {σ : gT} {i1 : Nat} {x2 : Int32} (h : gCx l G A d myX0_sizeLent [.inr (.inr (0, 0)), .inr (.inr (3, i1))] σ (fun r s2 => Z 11 [some (.inr (.inr (0, 0))), some (.inr (.inr (3, i1))), some (.inl x2), none] (r.toList ++ []) s2)) : Z 6 [some (.inr (.inr (0, 0))), some (.inr (.inr (3, i1))), some (.inl x2), none] [] σ := hZ _ _ _ _ h
theorem BX0_sizeOfTorn_11 {l : Launch} {G : gG} {A : Nat → Prop} {d : Nat} {post : Option gAV → gT → Prop} {Z : gK} (hZ : gSd l G A d 0 myX0_sizeOfTorn tbX0_sizeOfTorn post Z) {σ : gT} {i1 : Nat} {x2 : Int32} {t0 : Int32} (h : gCx l G A d myX0_markAsked [.inr (.inr (0, 0)), .inr (.inr (3, i1)), .inl (x2 + (1 : Int32))] σ (fun r s2 => Z 21 [none, none, none, none] (r.toList ++ [.inl t0]) s2)) : Z 11 [some (.inr (.inr (0, 0))), some (.inr (.inr (3, i1))), some (.inl x2), none] [.inl t0] σ := hZ _ _ _ _ h
theorem BX0_sizeOfTorn_21 {l : Launch} {G : gG} {A : Nat → Prop} {d : Nat} {post : Option gAV → gT → Prop} {Z : gK} (hZ : gSd l G A d 0 myX0_sizeOfTorn tbX0_sizeOfTorn post Z) {σ : gT} {t0 : Int32} {t1 : Int32} (h : post (some (.inl (t1 - t0))) σ) : Z 21 [none, none, none, none] [.inl t0, .inl t1] σ := hZ _ _ _ _ h
def tbX0_sizeOfBlind : gTb := [(0, [true, true, true], [(.aload_n 0, 1), (.bipush 14, 2), (.invokevirtual 54, 3)]), (6, [true, true, true], [(.aload_n 0, 1), (.aload_n 1, 1), (.iload_n 2, 1), (.invokevirtual 32, 3)]), (12, [false, false, false], [(.sipush 1000, 3), (.iadd, 1), (.ireturn, 1)])]
theorem tbX0_sizeOfBlind_ok : tbX0_sizeOfBlind.all (fun e => gokl myX0_sizeOfBlind.2.1 e.1 e.2.2) = true := by decide +kernel
theorem okX0_sizeOfBlind : plainFor myX0_sizeOfBlind.1 = true ∧ myX0_sizeOfBlind.1.cls = gcn 0 := by decide +kernel
theorem BX0_sizeOfBlind_0 {l : Launch} {G : gG} {A : Nat → Prop} {d : Nat} {post : Option gAV → gT → Prop} {Z : gK} (hZ : gSd l G A d 0 myX0_sizeOfBlind tbX0_sizeOfBlind post Z) {σ : gT} {i1 : Nat} {x2 : Int32} (h : gCx l G A d myX0_begin [.inr (.inr (0, 0)), .inl (14 : Int32)] σ (fun r s2 => Z 6 [some (.inr (.inr (0, 0))), some (.inr (.inr (3, i1))), some (.inl x2)] (r.toList ++ []) s2)) : Z 0 [some (.inr (.inr (0, 0))), some (.inr (.inr (3, i1))), some (.inl x2)] [] σ := hZ _ _ _ _ h
theorem BX0_sizeOfBlind_6 {l : Launch} {G : gG} {A : Nat → Prop} {d : Nat} {post : Option gAV → gT → Prop} {Z : gK} (hZ : gSd l G A d 0 myX0_sizeOfBlind tbX0_sizeOfBlind post Z) {σ : gT} {i1 : Nat} {x2 : Int32} (h : gCx l G A d myX0_sizeOfTorn [.inr (.inr (0, 0)), .inr (.inr (3, i1)), .inl x2] σ (fun r s2 => Z 12 [none, none, none] (r.toList ++ []) s2)) : Z 6 [some (.inr (.inr (0, 0))), some (.inr (.inr (3, i1))), some (.inl x2)] [] σ := hZ _ _ _ _ h
theorem BX0_sizeOfBlind_12 {l : Launch} {G : gG} {A : Nat → Prop} {d : Nat} {post : Option gAV → gT → Prop} {Z : gK} (hZ : gSd l G A d 0 myX0_sizeOfBlind tbX0_sizeOfBlind post Z) {σ : gT} {t0 : Int32} (h : post (some (.inl (t0 + (1000 : Int32)))) σ) : Z 12 [none, none, none] [.inl t0] σ := hZ _ _ _ _ h
def tbX0_markLent : gTb := [(0, [true, true], [(.aload_n 0, 1), (.bipush 20, 2), (.invokevirtual 54, 3)]), (6, [false, true], [(.aload_n 1, 1), (.invokevirtual 67, 3)]), (10, [false, false], [(.ireturn, 1)])]
theorem tbX0_markLent_ok : tbX0_markLent.all (fun e => gokl myX0_markLent.2.1 e.1 e.2.2) = true := by decide +kernel
theorem okX0_markLent : plainFor myX0_markLent.1 = true ∧ myX0_markLent.1.cls = gcn 0 := by decide +kernel
theorem BX0_markLent_0 {l : Launch} {G : gG} {A : Nat → Prop} {d : Nat} {post : Option gAV → gT → Prop} {Z : gK} (hZ : gSd l G A d 0 myX0_markLent tbX0_markLent post Z) {σ : gT} {i1 : Nat} (h : gCx l G A d myX0_begin [.inr (.inr (0, 0)), .inl (20 : Int32)] σ (fun r s2 => Z 6 [none, some (.inr (.inr (3, i1)))] (r.toList ++ []) s2)) : Z 0 [some (.inr (.inr (0, 0))), some (.inr (.inr (3, i1)))] [] σ := hZ _ _ _ _ h
theorem BX0_markLent_6 {l : Launch} {G : gG} {A : Nat → Prop} {d : Nat} {post : Option gAV → gT → Prop} {Z : gK} (hZ : gSd l G A d 0 myX0_markLent tbX0_markLent post Z) {σ : gT} {i1 : Nat} (h : gCx l G A d myX3_greatest [.inr (.inr (3, i1))] σ (fun r s2 => Z 10 [none, none] (r.toList ++ []) s2)) : Z 6 [none, some (.inr (.inr (3, i1)))] [] σ := hZ _ _ _ _ h
theorem BX0_markLent_10 {l : Launch} {G : gG} {A : Nat → Prop} {d : Nat} {post : Option gAV → gT → Prop} {Z : gK} (hZ : gSd l G A d 0 myX0_markLent tbX0_markLent post Z) {σ : gT} {t0 : Int32} (h : post (some (.inl t0)) σ) : Z 10 [none, none] [.inl t0] σ := hZ _ _ _ _ h
def tbX0_markOfClear : gTb := [(0, [true, true], [(.aload_n 0, 1), (.bipush 21, 2), (.invokevirtual 54, 3)]), (6, [true, true], [(.aload_n 0, 1), (.aload_n 1, 1), (.invokevirtual 51, 3)]), (11, [false, false], [(.sipush 1000, 3), (.iadd, 1), (.ireturn, 1)])]
theorem tbX0_markOfClear_ok : tbX0_markOfClear.all (fun e => gokl myX0_markOfClear.2.1 e.1 e.2.2) = true := by decide +kernel
theorem okX0_markOfClear : plainFor myX0_markOfClear.1 = true ∧ myX0_markOfClear.1.cls = gcn 0 := by decide +kernel
theorem BX0_markOfClear_0 {l : Launch} {G : gG} {A : Nat → Prop} {d : Nat} {post : Option gAV → gT → Prop} {Z : gK} (hZ : gSd l G A d 0 myX0_markOfClear tbX0_markOfClear post Z) {σ : gT} {i1 : Nat} (h : gCx l G A d myX0_begin [.inr (.inr (0, 0)), .inl (21 : Int32)] σ (fun r s2 => Z 6 [some (.inr (.inr (0, 0))), some (.inr (.inr (3, i1)))] (r.toList ++ []) s2)) : Z 0 [some (.inr (.inr (0, 0))), some (.inr (.inr (3, i1)))] [] σ := hZ _ _ _ _ h
theorem BX0_markOfClear_6 {l : Launch} {G : gG} {A : Nat → Prop} {d : Nat} {post : Option gAV → gT → Prop} {Z : gK} (hZ : gSd l G A d 0 myX0_markOfClear tbX0_markOfClear post Z) {σ : gT} {i1 : Nat} (h : gCx l G A d myX0_markLent [.inr (.inr (0, 0)), .inr (.inr (3, i1))] σ (fun r s2 => Z 11 [none, none] (r.toList ++ []) s2)) : Z 6 [some (.inr (.inr (0, 0))), some (.inr (.inr (3, i1)))] [] σ := hZ _ _ _ _ h
theorem BX0_markOfClear_11 {l : Launch} {G : gG} {A : Nat → Prop} {d : Nat} {post : Option gAV → gT → Prop} {Z : gK} (hZ : gSd l G A d 0 myX0_markOfClear tbX0_markOfClear post Z) {σ : gT} {t0 : Int32} (h : post (some (.inl (t0 + (1000 : Int32)))) σ) : Z 11 [none, none] [.inl t0] σ := hZ _ _ _ _ h
def tbX0_markOfFully : gTb := [(0, [true, true, true, false], [(.aload_n 0, 1), (.bipush 22, 2), (.invokevirtual 54, 3)]), (6, [true, true, true, false], [(.aload_n 0, 1), (.aload_n 1, 1), (.invokevirtual 42, 3)]), (11, [true, true, true, false], [(.istore_n 3, 1), (.iload_n 3, 1), (.aload_n 0, 1), (.aload_n 1, 1), (.iload_n 2, 1), (.iconst 1, 1), (.iadd, 1), (.invokevirtual 70, 3)]), (21, [false, false, false, false], [(.iadd, 1), (.ireturn, 1)])]
theorem tbX0_markOfFully_ok : tbX0_markOfFully.all (fun e => gokl myX0_markOfFully.2.1 e.1 e.2.2) = true := by decide +kernel
theorem okX0_markOfFully : plainFor myX0_markOfFully.1 = true ∧ myX0_markOfFully.1.cls = gcn 0 := by decide +kernel
theorem BX0_markOfFully_0 {l : Launch} {G : gG} {A : Nat → Prop} {d : Nat} {post : Option gAV → gT → Prop} {Z : gK} (hZ : gSd l G A d 0 myX0_markOfFully tbX0_markOfFully post Z) {σ : gT} {i1 : Nat} {x2 : Int32} (h : gCx l G A d myX0_begin [.inr (.inr (0, 0)), .inl (22 : Int32)] σ (fun r s2 => Z 6 [some (.inr (.inr (0, 0))), some (.inr (.inr (3, i1))), some (.inl x2), none] (r.toList ++ []) s2)) : Z 0 [some (.inr (.inr (0, 0))), some (.inr (.inr (3, i1))), some (.inl x2), none] [] σ := hZ _ _ _ _ h
theorem BX0_markOfFully_6 {l : Launch} {G : gG} {A : Nat → Prop} {d : Nat} {post : Option gAV → gT → Prop} {Z : gK} (hZ : gSd l G A d 0 myX0_markOfFully tbX0_markOfFully post Z) {σ : gT} {i1 : Nat} {x2 : Int32} (h : gCx l G A d myX0_markOfClear [.inr (.inr (0, 0)), .inr (.inr (3, i1))] σ (fun r s2 => Z 11 [some (.inr (.inr (0, 0))), some (.inr (.inr (3, i1))), some (.inl x2), none] (r.toList ++ []) s2)) : Z 6 [some (.inr (.inr (0, 0))), some (.inr (.inr (3, i1))), some (.inl x2), none] [] σ := hZ _ _ _ _ h
theorem BX0_markOfFully_11 {l : Launch} {G : gG} {A : Nat → Prop} {d : Nat} {post : Option gAV → gT → Prop} {Z : gK} (hZ : gSd l G A d 0 myX0_markOfFully tbX0_markOfFully post Z) {σ : gT} {i1 : Nat} {x2 : Int32} {t0 : Int32} (h : gCx l G A d myX0_sizeAsked [.inr (.inr (0, 0)), .inr (.inr (3, i1)), .inl (x2 + (1 : Int32))] σ (fun r s2 => Z 21 [none, none, none, none] (r.toList ++ [.inl t0]) s2)) : Z 11 [some (.inr (.inr (0, 0))), some (.inr (.inr (3, i1))), some (.inl x2), none] [.inl t0] σ := hZ _ _ _ _ h
theorem BX0_markOfFully_21 {l : Launch} {G : gG} {A : Nat → Prop} {d : Nat} {post : Option gAV → gT → Prop} {Z : gK} (hZ : gSd l G A d 0 myX0_markOfFully tbX0_markOfFully post Z) {σ : gT} {t0 : Int32} {t1 : Int32} (h : post (some (.inl (t1 + t0))) σ) : Z 21 [none, none, none, none] [.inl t0, .inl t1] σ := hZ _ _ _ _ h
def tbX0_markOfTorn : gTb := [(0, [true, true], [(.aload_n 0, 1), (.bipush 23, 2), (.invokevirtual 54, 3)]), (6, [false, true], [(.aload_n 1, 1), (.invokevirtual 73, 3)]), (10, [false, false], [(.ireturn, 1)])]
theorem tbX0_markOfTorn_ok : tbX0_markOfTorn.all (fun e => gokl myX0_markOfTorn.2.1 e.1 e.2.2) = true := by decide +kernel
theorem okX0_markOfTorn : plainFor myX0_markOfTorn.1 = true ∧ myX0_markOfTorn.1.cls = gcn 0 := by decide +kernel
theorem BX0_markOfTorn_0 {l : Launch} {G : gG} {A : Nat → Prop} {d : Nat} {post : Option gAV → gT → Prop} {Z : gK} (hZ : gSd l G A d 0 myX0_markOfTorn tbX0_markOfTorn post Z) {σ : gT} {i1 : Nat} (h : gCx l G A d myX0_begin [.inr (.inr (0, 0)), .inl (23 : Int32)] σ (fun r s2 => Z 6 [none, some (.inr (.inr (3, i1)))] (r.toList ++ []) s2)) : Z 0 [some (.inr (.inr (0, 0))), some (.inr (.inr (3, i1)))] [] σ := hZ _ _ _ _ h
theorem BX0_markOfTorn_6 {l : Launch} {G : gG} {A : Nat → Prop} {d : Nat} {post : Option gAV → gT → Prop} {Z : gK} (hZ : gSd l G A d 0 myX0_markOfTorn tbX0_markOfTorn post Z) {σ : gT} {i1 : Nat} (h : gCx l G A d myX3_lostOnes [.inr (.inr (3, i1))] σ (fun r s2 => Z 10 [none, none] (r.toList ++ []) s2)) : Z 6 [none, some (.inr (.inr (3, i1)))] [] σ := hZ _ _ _ _ h
theorem BX0_markOfTorn_10 {l : Launch} {G : gG} {A : Nat → Prop} {d : Nat} {post : Option gAV → gT → Prop} {Z : gK} (hZ : gSd l G A d 0 myX0_markOfTorn tbX0_markOfTorn post Z) {σ : gT} {t0 : Int32} (h : post (some (.inl t0)) σ) : Z 10 [none, none] [.inl t0] σ := hZ _ _ _ _ h
def tbX1_darken : gTb := [(0, [true], [(.aload_n 0, 1), (.getfield 9, 3), (.lconst 0, 1), (.invokestatic 18, 3)]), (8, [true], [(.aload_n 0, 1), (.getfield 15, 3), (.lconst 0, 1), (.invokestatic 18, 3)]), (16, [false], [(.return_, 1)])]
theorem tbX1_darken_ok : tbX1_darken.all (fun e => gokl myX1_darken.2.1 e.1 e.2.2) = true := by decide +kernel
theorem okX1_darken : plainFor myX1_darken.1 = true ∧ myX1_darken.1.cls = gcn 1 := by decide +kernel
theorem BX1_darken_0 {l : Launch} {G : gG} {A : Nat → Prop} {d : Nat} {post : Option gAV → gT → Prop} {Z : gK} (hZ : gSd l G A d 1 myX1_darken tbX1_darken post Z) {σ : gT}  (h : gCx l G A d myJ7_fill_d0a16 [.inr (.inr (12, 0)), .inr (.inl (0 : Int64))] σ (fun r s2 => Z 8 [some (.inr (.inr (1, 0)))] (r.toList ++ []) s2)) : Z 0 [some (.inr (.inr (1, 0)))] [] σ := hZ _ _ _ _ h
theorem BX1_darken_8 {l : Launch} {G : gG} {A : Nat → Prop} {d : Nat} {post : Option gAV → gT → Prop} {Z : gK} (hZ : gSd l G A d 1 myX1_darken tbX1_darken post Z) {σ : gT}  (h : gCx l G A d myJ7_fill_d0a16 [.inr (.inr (13, 0)), .inr (.inl (0 : Int64))] σ (fun r s2 => Z 16 [none] (r.toList ++ []) s2)) : Z 8 [some (.inr (.inr (1, 0)))] [] σ := hZ _ _ _ _ h
theorem BX1_darken_16 {l : Launch} {G : gG} {A : Nat → Prop} {d : Nat} {post : Option gAV → gT → Prop} {Z : gK} (hZ : gSd l G A d 1 myX1_darken tbX1_darken post Z) {σ : gT}  (h : post none σ) : Z 16 [none] [] σ := hZ _ _ _ _ h
def tbX1_start : gTb := [(0, [true, true, false], [(.iconst 0, 1), (.istore_n 2, 1)]), (2, [true, true, true], [(.iload_n 2, 1), (.bipush 16, 2), (.if_icmp .ge 28, 3), (.aload_n 0, 1), (.iload_n 2, 1), (.aload_n 1, 1), (.getfield 24, 3), (.iload_n 2, 1), (.iaload, 1), (.i2l, 1), (.aload_n 1, 1), (.getfield 29, 3), (.iload_n 2, 1), (.iaload, 1), (.i2l, 1), (.invokevirtual 31, 3)]), (27, [true, true, true], [(.iinc 2 1, 3), (.goto (-28), 3)]), (33, [false, false, false], [(.return_, 1)])]
theorem tbX1_start_ok : tbX1_start.all (fun e => gokl myX1_start.2.1 e.1 e.2.2) = true := by decide +kernel
theorem okX1_start : plainFor myX1_start.1 = true ∧ myX1_start.1.cls = gcn 1 := by decide +kernel
theorem BX1_start_0 {l : Launch} {G : gG} {A : Nat → Prop} {d : Nat} {post : Option gAV → gT → Prop} {Z : gK} (hZ : gSd l G A d 1 myX1_start tbX1_start post Z) {σ : gT} {i1 : Nat} (h : Z 2 [some (.inr (.inr (1, 0))), some (.inr (.inr (8, i1))), some (.inl (0 : Int32))] [] σ) : Z 0 [some (.inr (.inr (1, 0))), some (.inr (.inr (8, i1))), none] [] σ := hZ _ _ _ _ h
theorem BX1_start_2 {l : Launch} {G : gG} {A : Nat → Prop} {d : Nat} {post : Option gAV → gT → Prop} {Z : gK} (hZ : gSd l G A d 1 myX1_start tbX1_start post Z) {σ : gT} {i1 : Nat} {x2 : Int32} (h : ((16 : Int32) ≤ x2 → Z 33 [none, none, none] [] σ) ∧ (¬ (16 : Int32) ≤ x2 → vp_in x2 16 ∧ vp_in x2 16 ∧ gCx l G A d myX1_put [.inr (.inr (1, 0)), .inl x2, .inr (.inl ((σ.1 23 i1 (x2 : Int32).toNatClampNeg) : Int32).toInt64), .inr (.inl ((σ.1 24 i1 (x2 : Int32).toNatClampNeg) : Int32).toInt64)] σ (fun r s2 => Z 27 [some (.inr (.inr (1, 0))), some (.inr (.inr (8, i1))), some (.inl x2)] (r.toList ++ []) s2))) : Z 2 [some (.inr (.inr (1, 0))), some (.inr (.inr (8, i1))), some (.inl x2)] [] σ := hZ _ _ _ _ h
theorem BX1_start_27 {l : Launch} {G : gG} {A : Nat → Prop} {d : Nat} {post : Option gAV → gT → Prop} {Z : gK} (hZ : gSd l G A d 1 myX1_start tbX1_start post Z) {σ : gT} {i1 : Nat} {x2 : Int32} (h : Z 2 [some (.inr (.inr (1, 0))), some (.inr (.inr (8, i1))), some (.inl (x2 + (1 : Int32)))] [] σ) : Z 27 [some (.inr (.inr (1, 0))), some (.inr (.inr (8, i1))), some (.inl x2)] [] σ := hZ _ _ _ _ h
theorem BX1_start_33 {l : Launch} {G : gG} {A : Nat → Prop} {d : Nat} {post : Option gAV → gT → Prop} {Z : gK} (hZ : gSd l G A d 1 myX1_start tbX1_start post Z) {σ : gT}  (h : post none σ) : Z 33 [none, none, none] [] σ := hZ _ _ _ _ h
def tbX1_put : gTb := [(0, [true, true, true, false, true, false], [(.aload_n 0, 1), (.getfield 9, 3), (.iload_n 1, 1), (.lload_n 2, 1), (.lastore, 1), (.aload_n 0, 1), (.getfield 15, 3), (.iload_n 1, 1), (.lload 4, 2), (.lastore, 1), (.return_, 1)])]
theorem tbX1_put_ok : tbX1_put.all (fun e => gokl myX1_put.2.1 e.1 e.2.2) = true := by decide +kernel
theorem okX1_put : plainFor myX1_put.1 = true ∧ myX1_put.1.cls = gcn 1 := by decide +kernel
theorem BX1_put_0 {l : Launch} {G : gG} {A : Nat → Prop} {d : Nat} {post : Option gAV → gT → Prop} {Z : gK} (hZ : gSd l G A d 1 myX1_put tbX1_put post Z) {σ : gT} {x1 : Int32} {y2 : Int64} {y4 : Int64} (h : vp_in x1 16 ∧ vp_in x1 16 ∧ post none (gsl (gsl σ 12 0 (x1 : Int32).toNatClampNeg y2) 13 0 (x1 : Int32).toNatClampNeg y4)) : Z 0 [some (.inr (.inr (1, 0))), some (.inl x1), some (.inr (.inl y2)), none, some (.inr (.inl y4)), none] [] σ := hZ _ _ _ _ h
def tbX1_addTurned : gTb := [(0, [true, true, true, false, true, false, true], [(.aload_n 0, 1), (.getfield 9, 3), (.iload_n 1, 1), (.dup2, 1), (.laload, 1), (.lload_n 2, 1), (.lload 4, 2), (.iload 6, 2), (.invokestatic 35, 3)]), (15, [true, true, true, false, true, false, true], [(.ladd, 1), (.lastore, 1), (.aload_n 0, 1), (.getfield 15, 3), (.iload_n 1, 1), (.dup2, 1), (.laload, 1), (.lload_n 2, 1), (.lload 4, 2), (.iload 6, 2), (.invokestatic 39, 3)]), (32, [false, false, false, false, false, false, false], [(.ladd, 1), (.lastore, 1), (.return_, 1)])]
theorem tbX1_addTurned_ok : tbX1_addTurned.all (fun e => gokl myX1_addTurned.2.1 e.1 e.2.2) = true := by decide +kernel
theorem okX1_addTurned : plainFor myX1_addTurned.1 = true ∧ myX1_addTurned.1.cls = gcn 1 := by decide +kernel
theorem BX1_addTurned_0 {l : Launch} {G : gG} {A : Nat → Prop} {d : Nat} {post : Option gAV → gT → Prop} {Z : gK} (hZ : gSd l G A d 1 myX1_addTurned tbX1_addTurned post Z) {σ : gT} {x1 : Int32} {y2 : Int64} {y4 : Int64} {x6 : Int32} (h : vp_in x1 16 ∧ gCx l G A d myX9_turnedRe [.inr (.inl y2), .inr (.inl y4), .inl x6] σ (fun r s2 => Z 15 [some (.inr (.inr (1, 0))), some (.inl x1), some (.inr (.inl y2)), none, some (.inr (.inl y4)), none, some (.inl x6)] (r.toList ++ [.inr (.inl (σ.2 12 0 (x1 : Int32).toNatClampNeg)), .inl x1, .inr (.inr (12, 0))]) s2)) : Z 0 [some (.inr (.inr (1, 0))), some (.inl x1), some (.inr (.inl y2)), none, some (.inr (.inl y4)), none, some (.inl x6)] [] σ := hZ _ _ _ _ h
theorem BX1_addTurned_15 {l : Launch} {G : gG} {A : Nat → Prop} {d : Nat} {post : Option gAV → gT → Prop} {Z : gK} (hZ : gSd l G A d 1 myX1_addTurned tbX1_addTurned post Z) {σ : gT} {x1 : Int32} {y2 : Int64} {y4 : Int64} {x6 : Int32} {u0 : Int64} {u1 : Int64} {t2 : Int32} (h : vp_in t2 16 ∧ vp_in x1 16 ∧ gCx l G A d myX9_turnedIm [.inr (.inl y2), .inr (.inl y4), .inl x6] (gsl σ 12 0 (t2 : Int32).toNatClampNeg (u1 + u0)) (fun r s2 => Z 32 [none, none, none, none, none, none, none] (r.toList ++ [.inr (.inl ((gsl σ 12 0 (t2 : Int32).toNatClampNeg (u1 + u0)).2 13 0 (x1 : Int32).toNatClampNeg)), .inl x1, .inr (.inr (13, 0))]) s2)) : Z 15 [some (.inr (.inr (1, 0))), some (.inl x1), some (.inr (.inl y2)), none, some (.inr (.inl y4)), none, some (.inl x6)] [.inr (.inl u0), .inr (.inl u1), .inl t2, .inr (.inr (12, 0))] σ := hZ _ _ _ _ h
theorem BX1_addTurned_32 {l : Launch} {G : gG} {A : Nat → Prop} {d : Nat} {post : Option gAV → gT → Prop} {Z : gK} (hZ : gSd l G A d 1 myX1_addTurned tbX1_addTurned post Z) {σ : gT} {u0 : Int64} {u1 : Int64} {t2 : Int32} (h : vp_in t2 16 ∧ post none (gsl σ 13 0 (t2 : Int32).toNatClampNeg (u1 + u0))) : Z 32 [none, none, none, none, none, none, none] [.inr (.inl u0), .inr (.inl u1), .inl t2, .inr (.inr (13, 0))] σ := hZ _ _ _ _ h
def tbX1_addPlane : gTb := [(0, [true, true, true, true, true, false], [(.iconst 0, 1), (.istore 5, 2)]), (3, [true, true, true, true, true, true], [(.iload 5, 2), (.bipush 16, 2), (.if_icmp .ge 30, 3), (.aload_n 0, 1), (.iload 5, 2), (.iload_n 3, 1), (.i2l, 1), (.lconst 0, 1), (.iload 4, 2), (.iload_n 1, 1), (.iload_n 2, 1), (.iload 5, 2), (.invokestatic 42, 3)]), (25, [true, true, true, true, true, true], [(.iadd, 1), (.iconst 3, 1), (.iand, 1), (.invokevirtual 46, 3)]), (31, [true, true, true, true, true, true], [(.iinc 5 1, 3), (.goto (-31), 3)]), (37, [false, false, false, false, false, false], [(.return_, 1)])]
theorem tbX1_addPlane_ok : tbX1_addPlane.all (fun e => gokl myX1_addPlane.2.1 e.1 e.2.2) = true := by decide +kernel
theorem okX1_addPlane : plainFor myX1_addPlane.1 = true ∧ myX1_addPlane.1.cls = gcn 1 := by decide +kernel
theorem BX1_addPlane_0 {l : Launch} {G : gG} {A : Nat → Prop} {d : Nat} {post : Option gAV → gT → Prop} {Z : gK} (hZ : gSd l G A d 1 myX1_addPlane tbX1_addPlane post Z) {σ : gT} {x1 : Int32} {x2 : Int32} {x3 : Int32} {x4 : Int32} (h : Z 3 [some (.inr (.inr (1, 0))), some (.inl x1), some (.inl x2), some (.inl x3), some (.inl x4), some (.inl (0 : Int32))] [] σ) : Z 0 [some (.inr (.inr (1, 0))), some (.inl x1), some (.inl x2), some (.inl x3), some (.inl x4), none] [] σ := hZ _ _ _ _ h
theorem BX1_addPlane_3 {l : Launch} {G : gG} {A : Nat → Prop} {d : Nat} {post : Option gAV → gT → Prop} {Z : gK} (hZ : gSd l G A d 1 myX1_addPlane tbX1_addPlane post Z) {σ : gT} {x1 : Int32} {x2 : Int32} {x3 : Int32} {x4 : Int32} {x5 : Int32} (h : ((16 : Int32) ≤ x5 → Z 37 [none, none, none, none, none, none] [] σ) ∧ (¬ (16 : Int32) ≤ x5 → gCx l G A d myX9_lean [.inl x1, .inl x2, .inl x5] σ (fun r s2 => Z 25 [some (.inr (.inr (1, 0))), some (.inl x1), some (.inl x2), some (.inl x3), some (.inl x4), some (.inl x5)] (r.toList ++ [.inl x4, .inr (.inl (0 : Int64)), .inr (.inl (x3 : Int32).toInt64), .inl x5, .inr (.inr (1, 0))]) s2))) : Z 3 [some (.inr (.inr (1, 0))), some (.inl x1), some (.inl x2), some (.inl x3), some (.inl x4), some (.inl x5)] [] σ := hZ _ _ _ _ h
theorem BX1_addPlane_25 {l : Launch} {G : gG} {A : Nat → Prop} {d : Nat} {post : Option gAV → gT → Prop} {Z : gK} (hZ : gSd l G A d 1 myX1_addPlane tbX1_addPlane post Z) {σ : gT} {x1 : Int32} {x2 : Int32} {x3 : Int32} {x4 : Int32} {x5 : Int32} {t0 : Int32} {t1 : Int32} {u2 : Int64} {u3 : Int64} {t4 : Int32} (h : gCx l G A d myX1_addTurned [.inr (.inr (1, 0)), .inl t4, .inr (.inl u3), .inr (.inl u2), .inl ((t1 + t0) &&& (3 : Int32))] σ (fun r s2 => Z 31 [some (.inr (.inr (1, 0))), some (.inl x1), some (.inl x2), some (.inl x3), some (.inl x4), some (.inl x5)] (r.toList ++ []) s2)) : Z 25 [some (.inr (.inr (1, 0))), some (.inl x1), some (.inl x2), some (.inl x3), some (.inl x4), some (.inl x5)] [.inl t0, .inl t1, .inr (.inl u2), .inr (.inl u3), .inl t4, .inr (.inr (1, 0))] σ := hZ _ _ _ _ h
theorem BX1_addPlane_31 {l : Launch} {G : gG} {A : Nat → Prop} {d : Nat} {post : Option gAV → gT → Prop} {Z : gK} (hZ : gSd l G A d 1 myX1_addPlane tbX1_addPlane post Z) {σ : gT} {x1 : Int32} {x2 : Int32} {x3 : Int32} {x4 : Int32} {x5 : Int32} (h : Z 3 [some (.inr (.inr (1, 0))), some (.inl x1), some (.inl x2), some (.inl x3), some (.inl x4), some (.inl (x5 + (1 : Int32)))] [] σ) : Z 31 [some (.inr (.inr (1, 0))), some (.inl x1), some (.inl x2), some (.inl x3), some (.inl x4), some (.inl x5)] [] σ := hZ _ _ _ _ h
theorem BX1_addPlane_37 {l : Launch} {G : gG} {A : Nat → Prop} {d : Nat} {post : Option gAV → gT → Prop} {Z : gK} (hZ : gSd l G A d 1 myX1_addPlane tbX1_addPlane post Z) {σ : gT}  (h : post none σ) : Z 37 [none, none, none, none, none, none] [] σ := hZ _ _ _ _ h
def tbX1_addWave : gTb := [(0, [true, true, false], [(.iconst 0, 1), (.istore_n 2, 1)]), (2, [true, true, true], [(.iload_n 2, 1), (.bipush 16, 2), (.if_icmp .ge 29, 3), (.aload_n 0, 1), (.iload_n 2, 1), (.aload_n 1, 1), (.getfield 24, 3), (.iload_n 2, 1), (.iaload, 1), (.i2l, 1), (.aload_n 1, 1), (.getfield 29, 3), (.iload_n 2, 1), (.iaload, 1), (.i2l, 1), (.iconst 0, 1), (.invokevirtual 46, 3)]), (28, [true, true, true], [(.iinc 2 1, 3), (.goto (-29), 3)]), (34, [false, false, false], [(.return_, 1)])]
theorem tbX1_addWave_ok : tbX1_addWave.all (fun e => gokl myX1_addWave.2.1 e.1 e.2.2) = true := by decide +kernel
theorem okX1_addWave : plainFor myX1_addWave.1 = true ∧ myX1_addWave.1.cls = gcn 1 := by decide +kernel
theorem BX1_addWave_0 {l : Launch} {G : gG} {A : Nat → Prop} {d : Nat} {post : Option gAV → gT → Prop} {Z : gK} (hZ : gSd l G A d 1 myX1_addWave tbX1_addWave post Z) {σ : gT} {i1 : Nat} (h : Z 2 [some (.inr (.inr (1, 0))), some (.inr (.inr (8, i1))), some (.inl (0 : Int32))] [] σ) : Z 0 [some (.inr (.inr (1, 0))), some (.inr (.inr (8, i1))), none] [] σ := hZ _ _ _ _ h
theorem BX1_addWave_2 {l : Launch} {G : gG} {A : Nat → Prop} {d : Nat} {post : Option gAV → gT → Prop} {Z : gK} (hZ : gSd l G A d 1 myX1_addWave tbX1_addWave post Z) {σ : gT} {i1 : Nat} {x2 : Int32} (h : ((16 : Int32) ≤ x2 → Z 34 [none, none, none] [] σ) ∧ (¬ (16 : Int32) ≤ x2 → vp_in x2 16 ∧ vp_in x2 16 ∧ gCx l G A d myX1_addTurned [.inr (.inr (1, 0)), .inl x2, .inr (.inl ((σ.1 23 i1 (x2 : Int32).toNatClampNeg) : Int32).toInt64), .inr (.inl ((σ.1 24 i1 (x2 : Int32).toNatClampNeg) : Int32).toInt64), .inl (0 : Int32)] σ (fun r s2 => Z 28 [some (.inr (.inr (1, 0))), some (.inr (.inr (8, i1))), some (.inl x2)] (r.toList ++ []) s2))) : Z 2 [some (.inr (.inr (1, 0))), some (.inr (.inr (8, i1))), some (.inl x2)] [] σ := hZ _ _ _ _ h
theorem BX1_addWave_28 {l : Launch} {G : gG} {A : Nat → Prop} {d : Nat} {post : Option gAV → gT → Prop} {Z : gK} (hZ : gSd l G A d 1 myX1_addWave tbX1_addWave post Z) {σ : gT} {i1 : Nat} {x2 : Int32} (h : Z 2 [some (.inr (.inr (1, 0))), some (.inr (.inr (8, i1))), some (.inl (x2 + (1 : Int32)))] [] σ) : Z 28 [some (.inr (.inr (1, 0))), some (.inr (.inr (8, i1))), some (.inl x2)] [] σ := hZ _ _ _ _ h
theorem BX1_addWave_34 {l : Launch} {G : gG} {A : Nat → Prop} {d : Nat} {post : Option gAV → gT → Prop} {Z : gK} (hZ : gSd l G A d 1 myX1_addWave tbX1_addWave post Z) {σ : gT}  (h : post none σ) : Z 34 [none, none, none] [] σ := hZ _ _ _ _ h
def tbX1_turn : gTb := [(0, [true, true, true], [(.aload_n 0, 1), (.iload_n 1, 1), (.aload_n 0, 1), (.getfield 9, 3), (.iload_n 1, 1), (.laload, 1), (.aload_n 0, 1), (.getfield 15, 3), (.iload_n 1, 1), (.laload, 1), (.iload_n 2, 1), (.invokestatic 35, 3)]), (18, [true, true, true], [(.aload_n 0, 1), (.getfield 9, 3), (.iload_n 1, 1), (.laload, 1), (.aload_n 0, 1), (.getfield 15, 3), (.iload_n 1, 1), (.laload, 1), (.iload_n 2, 1), (.invokestatic 39, 3)]), (34, [false, false, false], [(.invokevirtual 31, 3)]), (37, [false, false, false], [(.return_, 1)])]
theorem tbX1_turn_ok : tbX1_turn.all (fun e => gokl myX1_turn.2.1 e.1 e.2.2) = true := by decide +kernel
theorem okX1_turn : plainFor myX1_turn.1 = true ∧ myX1_turn.1.cls = gcn 1 := by decide +kernel
theorem BX1_turn_0 {l : Launch} {G : gG} {A : Nat → Prop} {d : Nat} {post : Option gAV → gT → Prop} {Z : gK} (hZ : gSd l G A d 1 myX1_turn tbX1_turn post Z) {σ : gT} {x1 : Int32} {x2 : Int32} (h : vp_in x1 16 ∧ vp_in x1 16 ∧ gCx l G A d myX9_turnedRe [.inr (.inl (σ.2 12 0 (x1 : Int32).toNatClampNeg)), .inr (.inl (σ.2 13 0 (x1 : Int32).toNatClampNeg)), .inl x2] σ (fun r s2 => Z 18 [some (.inr (.inr (1, 0))), some (.inl x1), some (.inl x2)] (r.toList ++ [.inl x1, .inr (.inr (1, 0))]) s2)) : Z 0 [some (.inr (.inr (1, 0))), some (.inl x1), some (.inl x2)] [] σ := hZ _ _ _ _ h
theorem BX1_turn_18 {l : Launch} {G : gG} {A : Nat → Prop} {d : Nat} {post : Option gAV → gT → Prop} {Z : gK} (hZ : gSd l G A d 1 myX1_turn tbX1_turn post Z) {σ : gT} {x1 : Int32} {x2 : Int32} {u0 : Int64} {t1 : Int32} (h : vp_in x1 16 ∧ vp_in x1 16 ∧ gCx l G A d myX9_turnedIm [.inr (.inl (σ.2 12 0 (x1 : Int32).toNatClampNeg)), .inr (.inl (σ.2 13 0 (x1 : Int32).toNatClampNeg)), .inl x2] σ (fun r s2 => Z 34 [none, none, none] (r.toList ++ [.inr (.inl u0), .inl t1, .inr (.inr (1, 0))]) s2)) : Z 18 [some (.inr (.inr (1, 0))), some (.inl x1), some (.inl x2)] [.inr (.inl u0), .inl t1, .inr (.inr (1, 0))] σ := hZ _ _ _ _ h
theorem BX1_turn_34 {l : Launch} {G : gG} {A : Nat → Prop} {d : Nat} {post : Option gAV → gT → Prop} {Z : gK} (hZ : gSd l G A d 1 myX1_turn tbX1_turn post Z) {σ : gT} {u0 : Int64} {u1 : Int64} {t2 : Int32} (h : gCx l G A d myX1_put [.inr (.inr (1, 0)), .inl t2, .inr (.inl u1), .inr (.inl u0)] σ (fun r s2 => Z 37 [none, none, none] (r.toList ++ []) s2)) : Z 34 [none, none, none] [.inr (.inl u0), .inr (.inl u1), .inl t2, .inr (.inr (1, 0))] σ := hZ _ _ _ _ h
theorem BX1_turn_37 {l : Launch} {G : gG} {A : Nat → Prop} {d : Nat} {post : Option gAV → gT → Prop} {Z : gK} (hZ : gSd l G A d 1 myX1_turn tbX1_turn post Z) {σ : gT}  (h : post none σ) : Z 37 [none, none, none] [] σ := hZ _ _ _ _ h
def tbX1_sendOn : gTb := [(0, [true, true, true, false, false, false], [(.aload_n 0, 1), (.invokevirtual 50, 3)]), (4, [true, true, true, false, false, false], [(.iconst 0, 1), (.istore_n 3, 1)]), (6, [true, true, true, true, false, false], [(.iload_n 3, 1), (.bipush 16, 2), (.if_icmp .ge 73, 3), (.iconst 0, 1), (.istore 4, 2)]), (15, [true, true, true, true, true, false], [(.iload 4, 2), (.bipush 16, 2), (.if_icmp .ge 57, 3), (.iload_n 3, 1), (.iconst 3, 1), (.iand, 1), (.iload_n 3, 1), (.iconst 2, 1), (.ishr, 1), (.iload 4, 2), (.invokestatic 42, 3)]), (33, [true, true, true, true, true, false], [(.istore 5, 2), (.aload_n 0, 1), (.iload_n 3, 1), (.aload_n 1, 1), (.getfield 24, 3), (.iload 4, 2), (.iaload, 1), (.i2l, 1), (.aload_n 1, 1), (.getfield 29, 3), (.iload 4, 2), (.iaload, 1), (.i2l, 1), (.iload_n 2, 1), (.ifCond .ne 8, 3), (.iload 5, 2), (.goto 8, 3)]), (62, [true, true, true, true, true, true], [(.iload 5, 2), (.ineg, 1), (.iconst 3, 1), (.iand, 1)]), (67, [true, true, true, true, true, false], [(.invokevirtual 46, 3)]), (70, [true, true, true, true, true, false], [(.iinc 4 1, 3), (.goto (-58), 3)]), (76, [true, true, true, true, false, false], [(.iinc 3 1, 3), (.goto (-73), 3)]), (82, [false, false, false, false, false, false], [(.return_, 1)])]
theorem tbX1_sendOn_ok : tbX1_sendOn.all (fun e => gokl myX1_sendOn.2.1 e.1 e.2.2) = true := by decide +kernel
theorem okX1_sendOn : plainFor myX1_sendOn.1 = true ∧ myX1_sendOn.1.cls = gcn 1 := by decide +kernel
theorem BX1_sendOn_0 {l : Launch} {G : gG} {A : Nat → Prop} {d : Nat} {post : Option gAV → gT → Prop} {Z : gK} (hZ : gSd l G A d 1 myX1_sendOn tbX1_sendOn post Z) {σ : gT} {i1 : Nat} {x2 : Int32} (h : gCx l G A d myX1_darken [.inr (.inr (1, 0))] σ (fun r s2 => Z 4 [some (.inr (.inr (1, 0))), some (.inr (.inr (8, i1))), some (.inl x2), none, none, none] (r.toList ++ []) s2)) : Z 0 [some (.inr (.inr (1, 0))), some (.inr (.inr (8, i1))), some (.inl x2), none, none, none] [] σ := hZ _ _ _ _ h
theorem BX1_sendOn_4 {l : Launch} {G : gG} {A : Nat → Prop} {d : Nat} {post : Option gAV → gT → Prop} {Z : gK} (hZ : gSd l G A d 1 myX1_sendOn tbX1_sendOn post Z) {σ : gT} {i1 : Nat} {x2 : Int32} (h : Z 6 [some (.inr (.inr (1, 0))), some (.inr (.inr (8, i1))), some (.inl x2), some (.inl (0 : Int32)), none, none] [] σ) : Z 4 [some (.inr (.inr (1, 0))), some (.inr (.inr (8, i1))), some (.inl x2), none, none, none] [] σ := hZ _ _ _ _ h
theorem BX1_sendOn_6 {l : Launch} {G : gG} {A : Nat → Prop} {d : Nat} {post : Option gAV → gT → Prop} {Z : gK} (hZ : gSd l G A d 1 myX1_sendOn tbX1_sendOn post Z) {σ : gT} {i1 : Nat} {x2 : Int32} {x3 : Int32} (h : ((16 : Int32) ≤ x3 → Z 82 [none, none, none, none, none, none] [] σ) ∧ (¬ (16 : Int32) ≤ x3 → Z 15 [some (.inr (.inr (1, 0))), some (.inr (.inr (8, i1))), some (.inl x2), some (.inl x3), some (.inl (0 : Int32)), none] [] σ)) : Z 6 [some (.inr (.inr (1, 0))), some (.inr (.inr (8, i1))), some (.inl x2), some (.inl x3), none, none] [] σ := hZ _ _ _ _ h
theorem BX1_sendOn_15 {l : Launch} {G : gG} {A : Nat → Prop} {d : Nat} {post : Option gAV → gT → Prop} {Z : gK} (hZ : gSd l G A d 1 myX1_sendOn tbX1_sendOn post Z) {σ : gT} {i1 : Nat} {x2 : Int32} {x3 : Int32} {x4 : Int32} (h : ((16 : Int32) ≤ x4 → Z 76 [some (.inr (.inr (1, 0))), some (.inr (.inr (8, i1))), some (.inl x2), some (.inl x3), none, none] [] σ) ∧ (¬ (16 : Int32) ≤ x4 → gCx l G A d myX9_lean [.inl (x3 &&& (3 : Int32)), .inl (x3 >>> ((2 : Int32) &&& 31)), .inl x4] σ (fun r s2 => Z 33 [some (.inr (.inr (1, 0))), some (.inr (.inr (8, i1))), some (.inl x2), some (.inl x3), some (.inl x4), none] (r.toList ++ []) s2))) : Z 15 [some (.inr (.inr (1, 0))), some (.inr (.inr (8, i1))), some (.inl x2), some (.inl x3), some (.inl x4), none] [] σ := hZ _ _ _ _ h
theorem BX1_sendOn_33 {l : Launch} {G : gG} {A : Nat → Prop} {d : Nat} {post : Option gAV → gT → Prop} {Z : gK} (hZ : gSd l G A d 1 myX1_sendOn tbX1_sendOn post Z) {σ : gT} {i1 : Nat} {x2 : Int32} {x3 : Int32} {x4 : Int32} {t0 : Int32} (h : vp_in x4 16 ∧ vp_in x4 16 ∧ (¬ x2 = 0 → Z 62 [some (.inr (.inr (1, 0))), some (.inr (.inr (8, i1))), some (.inl x2), some (.inl x3), some (.inl x4), some (.inl t0)] [.inr (.inl ((σ.1 24 i1 (x4 : Int32).toNatClampNeg) : Int32).toInt64), .inr (.inl ((σ.1 23 i1 (x4 : Int32).toNatClampNeg) : Int32).toInt64), .inl x3, .inr (.inr (1, 0))] σ) ∧ (x2 = 0 → Z 67 [some (.inr (.inr (1, 0))), some (.inr (.inr (8, i1))), some (.inl x2), some (.inl x3), some (.inl x4), none] [.inl t0, .inr (.inl ((σ.1 24 i1 (x4 : Int32).toNatClampNeg) : Int32).toInt64), .inr (.inl ((σ.1 23 i1 (x4 : Int32).toNatClampNeg) : Int32).toInt64), .inl x3, .inr (.inr (1, 0))] σ)) : Z 33 [some (.inr (.inr (1, 0))), some (.inr (.inr (8, i1))), some (.inl x2), some (.inl x3), some (.inl x4), none] [.inl t0] σ := hZ _ _ _ _ h
theorem BX1_sendOn_62 {l : Launch} {G : gG} {A : Nat → Prop} {d : Nat} {post : Option gAV → gT → Prop} {Z : gK} (hZ : gSd l G A d 1 myX1_sendOn tbX1_sendOn post Z) {σ : gT} {i1 : Nat} {x2 : Int32} {x3 : Int32} {x4 : Int32} {x5 : Int32} {u0 : Int64} {u1 : Int64} {t2 : Int32} (h : Z 67 [some (.inr (.inr (1, 0))), some (.inr (.inr (8, i1))), some (.inl x2), some (.inl x3), some (.inl x4), none] [.inl ((-x5) &&& (3 : Int32)), .inr (.inl u0), .inr (.inl u1), .inl t2, .inr (.inr (1, 0))] σ) : Z 62 [some (.inr (.inr (1, 0))), some (.inr (.inr (8, i1))), some (.inl x2), some (.inl x3), some (.inl x4), some (.inl x5)] [.inr (.inl u0), .inr (.inl u1), .inl t2, .inr (.inr (1, 0))] σ := hZ _ _ _ _ h
theorem BX1_sendOn_67 {l : Launch} {G : gG} {A : Nat → Prop} {d : Nat} {post : Option gAV → gT → Prop} {Z : gK} (hZ : gSd l G A d 1 myX1_sendOn tbX1_sendOn post Z) {σ : gT} {i1 : Nat} {x2 : Int32} {x3 : Int32} {x4 : Int32} {t0 : Int32} {u1 : Int64} {u2 : Int64} {t3 : Int32} (h : gCx l G A d myX1_addTurned [.inr (.inr (1, 0)), .inl t3, .inr (.inl u2), .inr (.inl u1), .inl t0] σ (fun r s2 => Z 70 [some (.inr (.inr (1, 0))), some (.inr (.inr (8, i1))), some (.inl x2), some (.inl x3), some (.inl x4), none] (r.toList ++ []) s2)) : Z 67 [some (.inr (.inr (1, 0))), some (.inr (.inr (8, i1))), some (.inl x2), some (.inl x3), some (.inl x4), none] [.inl t0, .inr (.inl u1), .inr (.inl u2), .inl t3, .inr (.inr (1, 0))] σ := hZ _ _ _ _ h
theorem BX1_sendOn_70 {l : Launch} {G : gG} {A : Nat → Prop} {d : Nat} {post : Option gAV → gT → Prop} {Z : gK} (hZ : gSd l G A d 1 myX1_sendOn tbX1_sendOn post Z) {σ : gT} {i1 : Nat} {x2 : Int32} {x3 : Int32} {x4 : Int32} (h : Z 15 [some (.inr (.inr (1, 0))), some (.inr (.inr (8, i1))), some (.inl x2), some (.inl x3), some (.inl (x4 + (1 : Int32))), none] [] σ) : Z 70 [some (.inr (.inr (1, 0))), some (.inr (.inr (8, i1))), some (.inl x2), some (.inl x3), some (.inl x4), none] [] σ := hZ _ _ _ _ h
theorem BX1_sendOn_76 {l : Launch} {G : gG} {A : Nat → Prop} {d : Nat} {post : Option gAV → gT → Prop} {Z : gK} (hZ : gSd l G A d 1 myX1_sendOn tbX1_sendOn post Z) {σ : gT} {i1 : Nat} {x2 : Int32} {x3 : Int32} (h : Z 6 [some (.inr (.inr (1, 0))), some (.inr (.inr (8, i1))), some (.inl x2), some (.inl (x3 + (1 : Int32))), none, none] [] σ) : Z 76 [some (.inr (.inr (1, 0))), some (.inr (.inr (8, i1))), some (.inl x2), some (.inl x3), none, none] [] σ := hZ _ _ _ _ h
theorem BX1_sendOn_82 {l : Launch} {G : gG} {A : Nat → Prop} {d : Nat} {post : Option gAV → gT → Prop} {Z : gK} (hZ : gSd l G A d 1 myX1_sendOn tbX1_sendOn post Z) {σ : gT}  (h : post none σ) : Z 82 [none, none, none, none, none, none] [] σ := hZ _ _ _ _ h
def tbX1_shareBySixteen : gTb := [(0, [true, false], [(.iconst 0, 1), (.istore_n 1, 1)]), (2, [true, true], [(.iload_n 1, 1), (.bipush 16, 2), (.if_icmp .ge 66, 3), (.aload_n 0, 1), (.getfield 9, 3), (.iload_n 1, 1), (.laload, 1), (.ldc2_w 53, 3), (.lrem, 1), (.lconst 0, 1), (.lcmp, 1), (.ifCond .ne 18, 3), (.aload_n 0, 1), (.getfield 15, 3), (.iload_n 1, 1), (.laload, 1), (.ldc2_w 53, 3), (.lrem, 1), (.lconst 0, 1), (.lcmp, 1), (.ifCond .eq 5, 3)]), (38, [false, false], [(.iconst 0, 1), (.ireturn, 1)]), (40, [true, true], [(.aload_n 0, 1), (.iload_n 1, 1), (.aload_n 0, 1), (.getfield 9, 3), (.iload_n 1, 1), (.laload, 1), (.ldc2_w 53, 3), (.ldiv, 1), (.aload_n 0, 1), (.getfield 15, 3), (.iload_n 1, 1), (.laload, 1), (.ldc2_w 53, 3), (.ldiv, 1), (.invokevirtual 31, 3)]), (65, [true, true], [(.iinc 1 1, 3), (.goto (-66), 3)]), (71, [false, false], [(.iconst 1, 1), (.ireturn, 1)])]
theorem tbX1_shareBySixteen_ok : tbX1_shareBySixteen.all (fun e => gokl myX1_shareBySixteen.2.1 e.1 e.2.2) = true := by decide +kernel
theorem okX1_shareBySixteen : plainFor myX1_shareBySixteen.1 = true ∧ myX1_shareBySixteen.1.cls = gcn 1 := by decide +kernel
theorem BX1_shareBySixteen_0 {l : Launch} {G : gG} {A : Nat → Prop} {d : Nat} {post : Option gAV → gT → Prop} {Z : gK} (hZ : gSd l G A d 1 myX1_shareBySixteen tbX1_shareBySixteen post Z) {σ : gT}  (h : Z 2 [some (.inr (.inr (1, 0))), some (.inl (0 : Int32))] [] σ) : Z 0 [some (.inr (.inr (1, 0))), none] [] σ := hZ _ _ _ _ h
theorem BX1_shareBySixteen_2 {l : Launch} {G : gG} {A : Nat → Prop} {d : Nat} {post : Option gAV → gT → Prop} {Z : gK} (hZ : gSd l G A d 1 myX1_shareBySixteen tbX1_shareBySixteen post Z) {σ : gT} {x1 : Int32} (h : ((16 : Int32) ≤ x1 → Z 71 [none, none] [] σ) ∧ (¬ (16 : Int32) ≤ x1 → vp_in x1 16 ∧ ¬ (16 : Int64) = 0 ∧ (¬ (lg_cmp ((σ.2 12 0 (x1 : Int32).toNatClampNeg) - (σ.2 12 0 (x1 : Int32).toNatClampNeg) / (16 : Int64) * (16 : Int64)) (0 : Int64)) = 0 → Z 38 [none, none] [] σ) ∧ ((lg_cmp ((σ.2 12 0 (x1 : Int32).toNatClampNeg) - (σ.2 12 0 (x1 : Int32).toNatClampNeg) / (16 : Int64) * (16 : Int64)) (0 : Int64)) = 0 → vp_in x1 16 ∧ ¬ (16 : Int64) = 0 ∧ ((lg_cmp ((σ.2 13 0 (x1 : Int32).toNatClampNeg) - (σ.2 13 0 (x1 : Int32).toNatClampNeg) / (16 : Int64) * (16 : Int64)) (0 : Int64)) = 0 → Z 40 [some (.inr (.inr (1, 0))), some (.inl x1)] [] σ) ∧ (¬ (lg_cmp ((σ.2 13 0 (x1 : Int32).toNatClampNeg) - (σ.2 13 0 (x1 : Int32).toNatClampNeg) / (16 : Int64) * (16 : Int64)) (0 : Int64)) = 0 → Z 38 [none, none] [] σ)))) : Z 2 [some (.inr (.inr (1, 0))), some (.inl x1)] [] σ := hZ _ _ _ _ h
theorem BX1_shareBySixteen_38 {l : Launch} {G : gG} {A : Nat → Prop} {d : Nat} {post : Option gAV → gT → Prop} {Z : gK} (hZ : gSd l G A d 1 myX1_shareBySixteen tbX1_shareBySixteen post Z) {σ : gT}  (h : ((0 : Int32) = 0 ∨ (0 : Int32) = 1) ∧ post (some (.inl (0 : Int32))) σ) : Z 38 [none, none] [] σ := hZ _ _ _ _ h
theorem BX1_shareBySixteen_40 {l : Launch} {G : gG} {A : Nat → Prop} {d : Nat} {post : Option gAV → gT → Prop} {Z : gK} (hZ : gSd l G A d 1 myX1_shareBySixteen tbX1_shareBySixteen post Z) {σ : gT} {x1 : Int32} (h : vp_in x1 16 ∧ ¬ (16 : Int64) = 0 ∧ vp_in x1 16 ∧ ¬ (16 : Int64) = 0 ∧ gCx l G A d myX1_put [.inr (.inr (1, 0)), .inl x1, .inr (.inl ((σ.2 12 0 (x1 : Int32).toNatClampNeg) / (16 : Int64))), .inr (.inl ((σ.2 13 0 (x1 : Int32).toNatClampNeg) / (16 : Int64)))] σ (fun r s2 => Z 65 [some (.inr (.inr (1, 0))), some (.inl x1)] (r.toList ++ []) s2)) : Z 40 [some (.inr (.inr (1, 0))), some (.inl x1)] [] σ := hZ _ _ _ _ h
theorem BX1_shareBySixteen_65 {l : Launch} {G : gG} {A : Nat → Prop} {d : Nat} {post : Option gAV → gT → Prop} {Z : gK} (hZ : gSd l G A d 1 myX1_shareBySixteen tbX1_shareBySixteen post Z) {σ : gT} {x1 : Int32} (h : Z 2 [some (.inr (.inr (1, 0))), some (.inl (x1 + (1 : Int32)))] [] σ) : Z 65 [some (.inr (.inr (1, 0))), some (.inl x1)] [] σ := hZ _ _ _ _ h
theorem BX1_shareBySixteen_71 {l : Launch} {G : gG} {A : Nat → Prop} {d : Nat} {post : Option gAV → gT → Prop} {Z : gK} (hZ : gSd l G A d 1 myX1_shareBySixteen tbX1_shareBySixteen post Z) {σ : gT}  (h : ((1 : Int32) = 0 ∨ (1 : Int32) = 1) ∧ post (some (.inl (1 : Int32))) σ) : Z 71 [none, none] [] σ := hZ _ _ _ _ h
def tbX1_settle : gTb := [(0, [true, true, false], [(.iconst 0, 1), (.istore_n 2, 1)]), (2, [true, true, true], [(.iload_n 2, 1), (.bipush 16, 2), (.if_icmp .ge 43, 3), (.aload_n 0, 1), (.getfield 9, 3), (.iload_n 2, 1), (.laload, 1), (.invokestatic 55, 3)]), (17, [true, true, true], [(.ldc2_w 61, 3), (.lcmp, 1), (.ifCond .gt 19, 3), (.aload_n 0, 1), (.getfield 15, 3), (.iload_n 2, 1), (.laload, 1), (.invokestatic 55, 3)]), (33, [true, true, true], [(.ldc2_w 61, 3), (.lcmp, 1), (.ifCond .le 5, 3)]), (40, [false, false, false], [(.iconst 0, 1), (.ireturn, 1)]), (42, [true, true, true], [(.iinc 2 1, 3), (.goto (-43), 3)]), (48, [true, true, false], [(.iconst 0, 1), (.istore_n 2, 1)]), (50, [true, true, true], [(.iload_n 2, 1), (.bipush 16, 2), (.if_icmp .ge 35, 3), (.aload_n 1, 1), (.getfield 24, 3), (.iload_n 2, 1), (.aload_n 0, 1), (.getfield 9, 3), (.iload_n 2, 1), (.laload, 1), (.l2i, 1), (.iastore, 1), (.aload_n 1, 1), (.getfield 29, 3), (.iload_n 2, 1), (.aload_n 0, 1), (.getfield 15, 3), (.iload_n 2, 1), (.laload, 1), (.l2i, 1), (.iastore, 1), (.iinc 2 1, 3), (.goto (-35), 3)]), (88, [false, false, false], [(.iconst 1, 1), (.ireturn, 1)])]
theorem tbX1_settle_ok : tbX1_settle.all (fun e => gokl myX1_settle.2.1 e.1 e.2.2) = true := by decide +kernel
theorem okX1_settle : plainFor myX1_settle.1 = true ∧ myX1_settle.1.cls = gcn 1 := by decide +kernel
theorem BX1_settle_0 {l : Launch} {G : gG} {A : Nat → Prop} {d : Nat} {post : Option gAV → gT → Prop} {Z : gK} (hZ : gSd l G A d 1 myX1_settle tbX1_settle post Z) {σ : gT} {i1 : Nat} (h : Z 2 [some (.inr (.inr (1, 0))), some (.inr (.inr (8, i1))), some (.inl (0 : Int32))] [] σ) : Z 0 [some (.inr (.inr (1, 0))), some (.inr (.inr (8, i1))), none] [] σ := hZ _ _ _ _ h
theorem BX1_settle_2 {l : Launch} {G : gG} {A : Nat → Prop} {d : Nat} {post : Option gAV → gT → Prop} {Z : gK} (hZ : gSd l G A d 1 myX1_settle tbX1_settle post Z) {σ : gT} {i1 : Nat} {x2 : Int32} (h : ((16 : Int32) ≤ x2 → Z 48 [some (.inr (.inr (1, 0))), some (.inr (.inr (8, i1))), none] [] σ) ∧ (¬ (16 : Int32) ≤ x2 → vp_in x2 16 ∧ gCx l G A d myJ9_abs_067f4 [.inr (.inl (σ.2 12 0 (x2 : Int32).toNatClampNeg))] σ (fun r s2 => Z 17 [some (.inr (.inr (1, 0))), some (.inr (.inr (8, i1))), some (.inl x2)] (r.toList ++ []) s2))) : Z 2 [some (.inr (.inr (1, 0))), some (.inr (.inr (8, i1))), some (.inl x2)] [] σ := hZ _ _ _ _ h
theorem BX1_settle_17 {l : Launch} {G : gG} {A : Nat → Prop} {d : Nat} {post : Option gAV → gT → Prop} {Z : gK} (hZ : gSd l G A d 1 myX1_settle tbX1_settle post Z) {σ : gT} {i1 : Nat} {x2 : Int32} {u0 : Int64} (h : (0 < (lg_cmp u0 (1000000 : Int64)) → Z 40 [none, none, none] [] σ) ∧ (¬ 0 < (lg_cmp u0 (1000000 : Int64)) → vp_in x2 16 ∧ gCx l G A d myJ9_abs_067f4 [.inr (.inl (σ.2 13 0 (x2 : Int32).toNatClampNeg))] σ (fun r s2 => Z 33 [some (.inr (.inr (1, 0))), some (.inr (.inr (8, i1))), some (.inl x2)] (r.toList ++ []) s2))) : Z 17 [some (.inr (.inr (1, 0))), some (.inr (.inr (8, i1))), some (.inl x2)] [.inr (.inl u0)] σ := hZ _ _ _ _ h
theorem BX1_settle_33 {l : Launch} {G : gG} {A : Nat → Prop} {d : Nat} {post : Option gAV → gT → Prop} {Z : gK} (hZ : gSd l G A d 1 myX1_settle tbX1_settle post Z) {σ : gT} {i1 : Nat} {x2 : Int32} {u0 : Int64} (h : ((lg_cmp u0 (1000000 : Int64)) ≤ 0 → Z 42 [some (.inr (.inr (1, 0))), some (.inr (.inr (8, i1))), some (.inl x2)] [] σ) ∧ (¬ (lg_cmp u0 (1000000 : Int64)) ≤ 0 → Z 40 [none, none, none] [] σ)) : Z 33 [some (.inr (.inr (1, 0))), some (.inr (.inr (8, i1))), some (.inl x2)] [.inr (.inl u0)] σ := hZ _ _ _ _ h
theorem BX1_settle_40 {l : Launch} {G : gG} {A : Nat → Prop} {d : Nat} {post : Option gAV → gT → Prop} {Z : gK} (hZ : gSd l G A d 1 myX1_settle tbX1_settle post Z) {σ : gT}  (h : ((0 : Int32) = 0 ∨ (0 : Int32) = 1) ∧ post (some (.inl (0 : Int32))) σ) : Z 40 [none, none, none] [] σ := hZ _ _ _ _ h
theorem BX1_settle_42 {l : Launch} {G : gG} {A : Nat → Prop} {d : Nat} {post : Option gAV → gT → Prop} {Z : gK} (hZ : gSd l G A d 1 myX1_settle tbX1_settle post Z) {σ : gT} {i1 : Nat} {x2 : Int32} (h : Z 2 [some (.inr (.inr (1, 0))), some (.inr (.inr (8, i1))), some (.inl (x2 + (1 : Int32)))] [] σ) : Z 42 [some (.inr (.inr (1, 0))), some (.inr (.inr (8, i1))), some (.inl x2)] [] σ := hZ _ _ _ _ h
theorem BX1_settle_48 {l : Launch} {G : gG} {A : Nat → Prop} {d : Nat} {post : Option gAV → gT → Prop} {Z : gK} (hZ : gSd l G A d 1 myX1_settle tbX1_settle post Z) {σ : gT} {i1 : Nat} (h : Z 50 [some (.inr (.inr (1, 0))), some (.inr (.inr (8, i1))), some (.inl (0 : Int32))] [] σ) : Z 48 [some (.inr (.inr (1, 0))), some (.inr (.inr (8, i1))), none] [] σ := hZ _ _ _ _ h
theorem BX1_settle_50 {l : Launch} {G : gG} {A : Nat → Prop} {d : Nat} {post : Option gAV → gT → Prop} {Z : gK} (hZ : gSd l G A d 1 myX1_settle tbX1_settle post Z) {σ : gT} {i1 : Nat} {x2 : Int32} (h : ((16 : Int32) ≤ x2 → Z 88 [none, none, none] [] σ) ∧ (¬ (16 : Int32) ≤ x2 → vp_in x2 16 ∧ vp_in x2 16 ∧ vp_in x2 16 ∧ vp_in x2 16 ∧ Z 50 [some (.inr (.inr (1, 0))), some (.inr (.inr (8, i1))), some (.inl (x2 + (1 : Int32)))] [] (gsu (gsu σ 23 i1 (x2 : Int32).toNatClampNeg ((σ.2 12 0 (x2 : Int32).toNatClampNeg) : Int64).toInt32) 24 i1 (x2 : Int32).toNatClampNeg (((gsu σ 23 i1 (x2 : Int32).toNatClampNeg ((σ.2 12 0 (x2 : Int32).toNatClampNeg) : Int64).toInt32).2 13 0 (x2 : Int32).toNatClampNeg) : Int64).toInt32))) : Z 50 [some (.inr (.inr (1, 0))), some (.inr (.inr (8, i1))), some (.inl x2)] [] σ := hZ _ _ _ _ h
theorem BX1_settle_88 {l : Launch} {G : gG} {A : Nat → Prop} {d : Nat} {post : Option gAV → gT → Prop} {Z : gK} (hZ : gSd l G A d 1 myX1_settle tbX1_settle post Z) {σ : gT}  (h : ((1 : Int32) = 0 ∨ (1 : Int32) = 1) ∧ post (some (.inl (1 : Int32))) σ) : Z 88 [none, none, none] [] σ := hZ _ _ _ _ h
def tbX2_howManyReach : gTb := [(0, [true, true, true, false, false, false], [(.aload_n 0, 1), (.aload_n 1, 1), (.iconst 0, 1), (.aload_n 0, 1), (.getfield 9, 3), (.invokevirtual 19, 3)]), (10, [true, true, true, false, false, false], [(.aload_n 0, 1), (.aload_n 1, 1), (.bipush 8, 2), (.aload_n 0, 1), (.getfield 13, 3), (.invokevirtual 19, 3)]), (21, [true, false, true, false, false, false], [(.iconst 0, 1), (.istore_n 3, 1), (.sipush 256, 3), (.istore 4, 2), (.iconst 0, 1), (.istore 5, 2)]), (31, [true, false, true, true, true, true], [(.iload 5, 2), (.sipush 256, 3), (.if_icmp .ge 50, 3)]), (39, [true, false, true, true, true, true], [(.iload 4, 2), (.ifCond .le 30, 3), (.aload_n 0, 1), (.getfield 9, 3), (.iload 5, 2), (.iaload, 1), (.aload_n 0, 1), (.getfield 13, 3), (.iload 4, 2), (.iconst 1, 1), (.isub, 1), (.iaload, 1), (.iadd, 1), (.iload_n 2, 1), (.if_icmp .lt 9, 3), (.iinc 4 (-1), 3), (.goto (-29), 3)]), (71, [true, false, true, true, true, true], [(.iload_n 3, 1), (.sipush 256, 3), (.iload 4, 2), (.isub, 1), (.iadd, 1), (.istore_n 3, 1), (.iinc 5 1, 3), (.goto (-52), 3)]), (86, [false, false, false, true, false, false], [(.iload_n 3, 1), (.ireturn, 1)])]
theorem tbX2_howManyReach_ok : tbX2_howManyReach.all (fun e => gokl myX2_howManyReach.2.1 e.1 e.2.2) = true := by decide +kernel
theorem okX2_howManyReach : plainFor myX2_howManyReach.1 = true ∧ myX2_howManyReach.1.cls = gcn 2 := by decide +kernel
theorem BX2_howManyReach_0 {l : Launch} {G : gG} {A : Nat → Prop} {d : Nat} {post : Option gAV → gT → Prop} {Z : gK} (hZ : gSd l G A d 2 myX2_howManyReach tbX2_howManyReach post Z) {σ : gT} {i1 : Nat} {x2 : Int32} (h : gCx l G A d myX2_sumUp [.inr (.inr (2, 0)), .inr (.inr (3, i1)), .inl (0 : Int32), .inr (.inr (14, 0))] σ (fun r s2 => Z 10 [some (.inr (.inr (2, 0))), some (.inr (.inr (3, i1))), some (.inl x2), none, none, none] (r.toList ++ []) s2)) : Z 0 [some (.inr (.inr (2, 0))), some (.inr (.inr (3, i1))), some (.inl x2), none, none, none] [] σ := hZ _ _ _ _ h
theorem BX2_howManyReach_10 {l : Launch} {G : gG} {A : Nat → Prop} {d : Nat} {post : Option gAV → gT → Prop} {Z : gK} (hZ : gSd l G A d 2 myX2_howManyReach tbX2_howManyReach post Z) {σ : gT} {i1 : Nat} {x2 : Int32} (h : gCx l G A d myX2_sumUp [.inr (.inr (2, 0)), .inr (.inr (3, i1)), .inl (8 : Int32), .inr (.inr (15, 0))] σ (fun r s2 => Z 21 [some (.inr (.inr (2, 0))), none, some (.inl x2), none, none, none] (r.toList ++ []) s2)) : Z 10 [some (.inr (.inr (2, 0))), some (.inr (.inr (3, i1))), some (.inl x2), none, none, none] [] σ := hZ _ _ _ _ h
theorem BX2_howManyReach_21 {l : Launch} {G : gG} {A : Nat → Prop} {d : Nat} {post : Option gAV → gT → Prop} {Z : gK} (hZ : gSd l G A d 2 myX2_howManyReach tbX2_howManyReach post Z) {σ : gT} {x2 : Int32} (h : Z 31 [some (.inr (.inr (2, 0))), none, some (.inl x2), some (.inl (0 : Int32)), some (.inl (256 : Int32)), some (.inl (0 : Int32))] [] σ) : Z 21 [some (.inr (.inr (2, 0))), none, some (.inl x2), none, none, none] [] σ := hZ _ _ _ _ h
theorem BX2_howManyReach_31 {l : Launch} {G : gG} {A : Nat → Prop} {d : Nat} {post : Option gAV → gT → Prop} {Z : gK} (hZ : gSd l G A d 2 myX2_howManyReach tbX2_howManyReach post Z) {σ : gT} {x2 : Int32} {x3 : Int32} {x4 : Int32} {x5 : Int32} (h : ((256 : Int32) ≤ x5 → Z 86 [none, none, none, some (.inl x3), none, none] [] σ) ∧ (¬ (256 : Int32) ≤ x5 → Z 39 [some (.inr (.inr (2, 0))), none, some (.inl x2), some (.inl x3), some (.inl x4), some (.inl x5)] [] σ)) : Z 31 [some (.inr (.inr (2, 0))), none, some (.inl x2), some (.inl x3), some (.inl x4), some (.inl x5)] [] σ := hZ _ _ _ _ h
theorem BX2_howManyReach_39 {l : Launch} {G : gG} {A : Nat → Prop} {d : Nat} {post : Option gAV → gT → Prop} {Z : gK} (hZ : gSd l G A d 2 myX2_howManyReach tbX2_howManyReach post Z) {σ : gT} {x2 : Int32} {x3 : Int32} {x4 : Int32} {x5 : Int32} (h : (x4 ≤ 0 → Z 71 [some (.inr (.inr (2, 0))), none, some (.inl x2), some (.inl x3), some (.inl x4), some (.inl x5)] [] σ) ∧ (¬ x4 ≤ 0 → vp_in x5 256 ∧ vp_in (x4 - (1 : Int32)) 256 ∧ (((σ.1 14 0 (x5 : Int32).toNatClampNeg) + (σ.1 15 0 ((x4 - (1 : Int32)) : Int32).toNatClampNeg)) < x2 → Z 71 [some (.inr (.inr (2, 0))), none, some (.inl x2), some (.inl x3), some (.inl x4), some (.inl x5)] [] σ) ∧ (¬ ((σ.1 14 0 (x5 : Int32).toNatClampNeg) + (σ.1 15 0 ((x4 - (1 : Int32)) : Int32).toNatClampNeg)) < x2 → Z 39 [some (.inr (.inr (2, 0))), none, some (.inl x2), some (.inl x3), some (.inl (x4 + (-1 : Int32))), some (.inl x5)] [] σ))) : Z 39 [some (.inr (.inr (2, 0))), none, some (.inl x2), some (.inl x3), some (.inl x4), some (.inl x5)] [] σ := hZ _ _ _ _ h
theorem BX2_howManyReach_71 {l : Launch} {G : gG} {A : Nat → Prop} {d : Nat} {post : Option gAV → gT → Prop} {Z : gK} (hZ : gSd l G A d 2 myX2_howManyReach tbX2_howManyReach post Z) {σ : gT} {x2 : Int32} {x3 : Int32} {x4 : Int32} {x5 : Int32} (h : Z 31 [some (.inr (.inr (2, 0))), none, some (.inl x2), some (.inl (x3 + ((256 : Int32) - x4))), some (.inl x4), some (.inl (x5 + (1 : Int32)))] [] σ) : Z 71 [some (.inr (.inr (2, 0))), none, some (.inl x2), some (.inl x3), some (.inl x4), some (.inl x5)] [] σ := hZ _ _ _ _ h
theorem BX2_howManyReach_86 {l : Launch} {G : gG} {A : Nat → Prop} {d : Nat} {post : Option gAV → gT → Prop} {Z : gK} (hZ : gSd l G A d 2 myX2_howManyReach tbX2_howManyReach post Z) {σ : gT} {x3 : Int32} (h : post (some (.inl x3)) σ) : Z 86 [none, none, none, some (.inl x3), none, none] [] σ := hZ _ _ _ _ h
def tbX2_sumUp : gTb := [(0, [true, true, true, true, false], [(.aload_n 3, 1), (.iconst 0, 1), (.iconst 0, 1), (.iastore, 1), (.iconst 0, 1), (.istore 4, 2)]), (7, [true, true, true, true, true], [(.iload 4, 2), (.bipush 8, 2), (.if_icmp .ge 26, 3), (.aload_n 0, 1), (.aload_n 3, 1), (.iconst 1, 1), (.iload 4, 2), (.ishl, 1), (.aload_n 1, 1), (.iload_n 2, 1), (.iload 4, 2), (.iadd, 1), (.invokevirtual 23, 3)]), (28, [true, true, true, true, true], [(.invokevirtual 29, 3)]), (31, [true, true, true, true, true], [(.iinc 4 1, 3), (.goto (-27), 3)]), (37, [false, false, false, false, false], [(.return_, 1)])]
theorem tbX2_sumUp_ok : tbX2_sumUp.all (fun e => gokl myX2_sumUp.2.1 e.1 e.2.2) = true := by decide +kernel
theorem okX2_sumUp : plainFor myX2_sumUp.1 = true ∧ myX2_sumUp.1.cls = gcn 2 := by decide +kernel
theorem BX2_sumUp_f14_0 {l : Launch} {G : gG} {A : Nat → Prop} {d : Nat} {post : Option gAV → gT → Prop} {Z : gK} (hZ : gSd l G A d 2 myX2_sumUp tbX2_sumUp post Z) {σ : gT} {i1 : Nat} {x2 : Int32} (h : vp_in (0 : Int32) 256 ∧ Z 7 [some (.inr (.inr (2, 0))), some (.inr (.inr (3, i1))), some (.inl x2), some (.inr (.inr (14, 0))), some (.inl (0 : Int32))] [] (gsu σ 14 0 ((0 : Int32) : Int32).toNatClampNeg (0 : Int32))) : Z 0 [some (.inr (.inr (2, 0))), some (.inr (.inr (3, i1))), some (.inl x2), some (.inr (.inr (14, 0))), none] [] σ := hZ _ _ _ _ h
theorem BX2_sumUp_f14_7 {l : Launch} {G : gG} {A : Nat → Prop} {d : Nat} {post : Option gAV → gT → Prop} {Z : gK} (hZ : gSd l G A d 2 myX2_sumUp tbX2_sumUp post Z) {σ : gT} {i1 : Nat} {x2 : Int32} {x4 : Int32} (h : ((8 : Int32) ≤ x4 → Z 37 [none, none, none, none, none] [] σ) ∧ (¬ (8 : Int32) ≤ x4 → gCx l G A d myX3_shown [.inr (.inr (3, i1)), .inl (x2 + x4)] σ (fun r s2 => Z 28 [some (.inr (.inr (2, 0))), some (.inr (.inr (3, i1))), some (.inl x2), some (.inr (.inr (14, 0))), some (.inl x4)] (r.toList ++ [.inl ((1 : Int32) <<< (x4 &&& 31)), .inr (.inr (14, 0)), .inr (.inr (2, 0))]) s2))) : Z 7 [some (.inr (.inr (2, 0))), some (.inr (.inr (3, i1))), some (.inl x2), some (.inr (.inr (14, 0))), some (.inl x4)] [] σ := hZ _ _ _ _ h
theorem BX2_sumUp_f14_28 {l : Launch} {G : gG} {A : Nat → Prop} {d : Nat} {post : Option gAV → gT → Prop} {Z : gK} (hZ : gSd l G A d 2 myX2_sumUp tbX2_sumUp post Z) {σ : gT} {i1 : Nat} {x2 : Int32} {x4 : Int32} {t0 : Int32} {t1 : Int32} (h : gCx l G A d myX2_merge [.inr (.inr (2, 0)), .inr (.inr (14, 0)), .inl t1, .inl t0] σ (fun r s2 => Z 31 [some (.inr (.inr (2, 0))), some (.inr (.inr (3, i1))), some (.inl x2), some (.inr (.inr (14, 0))), some (.inl x4)] (r.toList ++ []) s2)) : Z 28 [some (.inr (.inr (2, 0))), some (.inr (.inr (3, i1))), some (.inl x2), some (.inr (.inr (14, 0))), some (.inl x4)] [.inl t0, .inl t1, .inr (.inr (14, 0)), .inr (.inr (2, 0))] σ := hZ _ _ _ _ h
theorem BX2_sumUp_f14_31 {l : Launch} {G : gG} {A : Nat → Prop} {d : Nat} {post : Option gAV → gT → Prop} {Z : gK} (hZ : gSd l G A d 2 myX2_sumUp tbX2_sumUp post Z) {σ : gT} {i1 : Nat} {x2 : Int32} {x4 : Int32} (h : Z 7 [some (.inr (.inr (2, 0))), some (.inr (.inr (3, i1))), some (.inl x2), some (.inr (.inr (14, 0))), some (.inl (x4 + (1 : Int32)))] [] σ) : Z 31 [some (.inr (.inr (2, 0))), some (.inr (.inr (3, i1))), some (.inl x2), some (.inr (.inr (14, 0))), some (.inl x4)] [] σ := hZ _ _ _ _ h
theorem BX2_sumUp_f14_37 {l : Launch} {G : gG} {A : Nat → Prop} {d : Nat} {post : Option gAV → gT → Prop} {Z : gK} (hZ : gSd l G A d 2 myX2_sumUp tbX2_sumUp post Z) {σ : gT}  (h : post none σ) : Z 37 [none, none, none, none, none] [] σ := hZ _ _ _ _ h
theorem BX2_sumUp_f15_0 {l : Launch} {G : gG} {A : Nat → Prop} {d : Nat} {post : Option gAV → gT → Prop} {Z : gK} (hZ : gSd l G A d 2 myX2_sumUp tbX2_sumUp post Z) {σ : gT} {i1 : Nat} {x2 : Int32} (h : vp_in (0 : Int32) 256 ∧ Z 7 [some (.inr (.inr (2, 0))), some (.inr (.inr (3, i1))), some (.inl x2), some (.inr (.inr (15, 0))), some (.inl (0 : Int32))] [] (gsu σ 15 0 ((0 : Int32) : Int32).toNatClampNeg (0 : Int32))) : Z 0 [some (.inr (.inr (2, 0))), some (.inr (.inr (3, i1))), some (.inl x2), some (.inr (.inr (15, 0))), none] [] σ := hZ _ _ _ _ h
theorem BX2_sumUp_f15_7 {l : Launch} {G : gG} {A : Nat → Prop} {d : Nat} {post : Option gAV → gT → Prop} {Z : gK} (hZ : gSd l G A d 2 myX2_sumUp tbX2_sumUp post Z) {σ : gT} {i1 : Nat} {x2 : Int32} {x4 : Int32} (h : ((8 : Int32) ≤ x4 → Z 37 [none, none, none, none, none] [] σ) ∧ (¬ (8 : Int32) ≤ x4 → gCx l G A d myX3_shown [.inr (.inr (3, i1)), .inl (x2 + x4)] σ (fun r s2 => Z 28 [some (.inr (.inr (2, 0))), some (.inr (.inr (3, i1))), some (.inl x2), some (.inr (.inr (15, 0))), some (.inl x4)] (r.toList ++ [.inl ((1 : Int32) <<< (x4 &&& 31)), .inr (.inr (15, 0)), .inr (.inr (2, 0))]) s2))) : Z 7 [some (.inr (.inr (2, 0))), some (.inr (.inr (3, i1))), some (.inl x2), some (.inr (.inr (15, 0))), some (.inl x4)] [] σ := hZ _ _ _ _ h
theorem BX2_sumUp_f15_28 {l : Launch} {G : gG} {A : Nat → Prop} {d : Nat} {post : Option gAV → gT → Prop} {Z : gK} (hZ : gSd l G A d 2 myX2_sumUp tbX2_sumUp post Z) {σ : gT} {i1 : Nat} {x2 : Int32} {x4 : Int32} {t0 : Int32} {t1 : Int32} (h : gCx l G A d myX2_merge [.inr (.inr (2, 0)), .inr (.inr (15, 0)), .inl t1, .inl t0] σ (fun r s2 => Z 31 [some (.inr (.inr (2, 0))), some (.inr (.inr (3, i1))), some (.inl x2), some (.inr (.inr (15, 0))), some (.inl x4)] (r.toList ++ []) s2)) : Z 28 [some (.inr (.inr (2, 0))), some (.inr (.inr (3, i1))), some (.inl x2), some (.inr (.inr (15, 0))), some (.inl x4)] [.inl t0, .inl t1, .inr (.inr (15, 0)), .inr (.inr (2, 0))] σ := hZ _ _ _ _ h
theorem BX2_sumUp_f15_31 {l : Launch} {G : gG} {A : Nat → Prop} {d : Nat} {post : Option gAV → gT → Prop} {Z : gK} (hZ : gSd l G A d 2 myX2_sumUp tbX2_sumUp post Z) {σ : gT} {i1 : Nat} {x2 : Int32} {x4 : Int32} (h : Z 7 [some (.inr (.inr (2, 0))), some (.inr (.inr (3, i1))), some (.inl x2), some (.inr (.inr (15, 0))), some (.inl (x4 + (1 : Int32)))] [] σ) : Z 31 [some (.inr (.inr (2, 0))), some (.inr (.inr (3, i1))), some (.inl x2), some (.inr (.inr (15, 0))), some (.inl x4)] [] σ := hZ _ _ _ _ h
theorem BX2_sumUp_f15_37 {l : Launch} {G : gG} {A : Nat → Prop} {d : Nat} {post : Option gAV → gT → Prop} {Z : gK} (hZ : gSd l G A d 2 myX2_sumUp tbX2_sumUp post Z) {σ : gT}  (h : post none σ) : Z 37 [none, none, none, none, none] [] σ := hZ _ _ _ _ h
def tbX2_merge : gTb := [(0, [true, true, true, true, false, false, false], [(.aload_n 1, 1), (.iconst 0, 1), (.aload_n 0, 1), (.getfield 16, 3), (.iconst 0, 1), (.iload_n 2, 1), (.invokestatic 33, 3), (.iconst 0, 1), (.istore 4, 2), (.iconst 0, 1), (.istore 5, 2), (.iconst 0, 1), (.istore 6, 2)]), (20, [true, true, true, true, true, true, true], [(.iload 6, 2), (.iconst 2, 1), (.iload_n 2, 1), (.imul, 1), (.if_icmp .ge 67, 3), (.iload 4, 2), (.iload_n 2, 1), (.if_icmp .ge 39, 3), (.aload_n 0, 1), (.getfield 16, 3), (.iload 4, 2), (.iaload, 1), (.aload_n 0, 1), (.getfield 16, 3), (.iload 5, 2), (.iaload, 1), (.iload_n 3, 1), (.iadd, 1), (.if_icmp .gt 20, 3), (.aload_n 1, 1), (.iload 6, 2), (.aload_n 0, 1), (.getfield 16, 3), (.iload 4, 2), (.iaload, 1), (.iastore, 1), (.iinc 4 1, 3), (.goto 19, 3)]), (70, [true, true, true, true, true, true, true], [(.aload_n 1, 1), (.iload 6, 2), (.aload_n 0, 1), (.getfield 16, 3), (.iload 5, 2), (.iaload, 1), (.iload_n 3, 1), (.iadd, 1), (.iastore, 1), (.iinc 5 1, 3)]), (86, [true, true, true, true, true, true, true], [(.iinc 6 1, 3), (.goto (-69), 3)]), (92, [false, false, false, false, false, false, false], [(.return_, 1)])]
theorem tbX2_merge_ok : tbX2_merge.all (fun e => gokl myX2_merge.2.1 e.1 e.2.2) = true := by decide +kernel
theorem okX2_merge : plainFor myX2_merge.1 = true ∧ myX2_merge.1.cls = gcn 2 := by decide +kernel
theorem BX2_merge_f14_0 {l : Launch} {G : gG} {A : Nat → Prop} {d : Nat} {post : Option gAV → gT → Prop} {Z : gK} (hZ : gSd l G A d 2 myX2_merge tbX2_merge post Z) {σ : gT} {x2 : Int32} {x3 : Int32} (h : ¬ (0 : Int32) < 0 ∧ ¬ (0 : Int32) < 0 ∧ ¬ x2 < 0 ∧ ((0 : Int32) : Int32).toNatClampNeg + (x2 : Int32).toNatClampNeg ≤ 256 ∧ ((0 : Int32) : Int32).toNatClampNeg + (x2 : Int32).toNatClampNeg ≤ 256 ∧ Z 20 [some (.inr (.inr (2, 0))), some (.inr (.inr (14, 0))), some (.inl x2), some (.inl x3), some (.inl (0 : Int32)), some (.inl (0 : Int32)), some (.inl (0 : Int32))] [] (gsc σ 14 0 ((0 : Int32) : Int32).toNatClampNeg 16 0 ((0 : Int32) : Int32).toNatClampNeg (x2 : Int32).toNatClampNeg)) : Z 0 [some (.inr (.inr (2, 0))), some (.inr (.inr (14, 0))), some (.inl x2), some (.inl x3), none, none, none] [] σ := hZ _ _ _ _ h
theorem BX2_merge_f14_20 {l : Launch} {G : gG} {A : Nat → Prop} {d : Nat} {post : Option gAV → gT → Prop} {Z : gK} (hZ : gSd l G A d 2 myX2_merge tbX2_merge post Z) {σ : gT} {x2 : Int32} {x3 : Int32} {x4 : Int32} {x5 : Int32} {x6 : Int32} (h : (((2 : Int32) * x2) ≤ x6 → Z 92 [none, none, none, none, none, none, none] [] σ) ∧ (¬ ((2 : Int32) * x2) ≤ x6 → (x2 ≤ x4 → Z 70 [some (.inr (.inr (2, 0))), some (.inr (.inr (14, 0))), some (.inl x2), some (.inl x3), some (.inl x4), some (.inl x5), some (.inl x6)] [] σ) ∧ (¬ x2 ≤ x4 → vp_in x4 256 ∧ vp_in x5 256 ∧ (((σ.1 16 0 (x5 : Int32).toNatClampNeg) + x3) < (σ.1 16 0 (x4 : Int32).toNatClampNeg) → Z 70 [some (.inr (.inr (2, 0))), some (.inr (.inr (14, 0))), some (.inl x2), some (.inl x3), some (.inl x4), some (.inl x5), some (.inl x6)] [] σ) ∧ (¬ ((σ.1 16 0 (x5 : Int32).toNatClampNeg) + x3) < (σ.1 16 0 (x4 : Int32).toNatClampNeg) → vp_in x4 256 ∧ vp_in x6 256 ∧ Z 86 [some (.inr (.inr (2, 0))), some (.inr (.inr (14, 0))), some (.inl x2), some (.inl x3), some (.inl (x4 + (1 : Int32))), some (.inl x5), some (.inl x6)] [] (gsu σ 14 0 (x6 : Int32).toNatClampNeg (σ.1 16 0 (x4 : Int32).toNatClampNeg)))))) : Z 20 [some (.inr (.inr (2, 0))), some (.inr (.inr (14, 0))), some (.inl x2), some (.inl x3), some (.inl x4), some (.inl x5), some (.inl x6)] [] σ := hZ _ _ _ _ h
theorem BX2_merge_f14_70 {l : Launch} {G : gG} {A : Nat → Prop} {d : Nat} {post : Option gAV → gT → Prop} {Z : gK} (hZ : gSd l G A d 2 myX2_merge tbX2_merge post Z) {σ : gT} {x2 : Int32} {x3 : Int32} {x4 : Int32} {x5 : Int32} {x6 : Int32} (h : vp_in x5 256 ∧ vp_in x6 256 ∧ Z 86 [some (.inr (.inr (2, 0))), some (.inr (.inr (14, 0))), some (.inl x2), some (.inl x3), some (.inl x4), some (.inl (x5 + (1 : Int32))), some (.inl x6)] [] (gsu σ 14 0 (x6 : Int32).toNatClampNeg ((σ.1 16 0 (x5 : Int32).toNatClampNeg) + x3))) : Z 70 [some (.inr (.inr (2, 0))), some (.inr (.inr (14, 0))), some (.inl x2), some (.inl x3), some (.inl x4), some (.inl x5), some (.inl x6)] [] σ := hZ _ _ _ _ h
theorem BX2_merge_f14_86 {l : Launch} {G : gG} {A : Nat → Prop} {d : Nat} {post : Option gAV → gT → Prop} {Z : gK} (hZ : gSd l G A d 2 myX2_merge tbX2_merge post Z) {σ : gT} {x2 : Int32} {x3 : Int32} {x4 : Int32} {x5 : Int32} {x6 : Int32} (h : Z 20 [some (.inr (.inr (2, 0))), some (.inr (.inr (14, 0))), some (.inl x2), some (.inl x3), some (.inl x4), some (.inl x5), some (.inl (x6 + (1 : Int32)))] [] σ) : Z 86 [some (.inr (.inr (2, 0))), some (.inr (.inr (14, 0))), some (.inl x2), some (.inl x3), some (.inl x4), some (.inl x5), some (.inl x6)] [] σ := hZ _ _ _ _ h
theorem BX2_merge_f14_92 {l : Launch} {G : gG} {A : Nat → Prop} {d : Nat} {post : Option gAV → gT → Prop} {Z : gK} (hZ : gSd l G A d 2 myX2_merge tbX2_merge post Z) {σ : gT}  (h : post none σ) : Z 92 [none, none, none, none, none, none, none] [] σ := hZ _ _ _ _ h
theorem BX2_merge_f15_0 {l : Launch} {G : gG} {A : Nat → Prop} {d : Nat} {post : Option gAV → gT → Prop} {Z : gK} (hZ : gSd l G A d 2 myX2_merge tbX2_merge post Z) {σ : gT} {x2 : Int32} {x3 : Int32} (h : ¬ (0 : Int32) < 0 ∧ ¬ (0 : Int32) < 0 ∧ ¬ x2 < 0 ∧ ((0 : Int32) : Int32).toNatClampNeg + (x2 : Int32).toNatClampNeg ≤ 256 ∧ ((0 : Int32) : Int32).toNatClampNeg + (x2 : Int32).toNatClampNeg ≤ 256 ∧ Z 20 [some (.inr (.inr (2, 0))), some (.inr (.inr (15, 0))), some (.inl x2), some (.inl x3), some (.inl (0 : Int32)), some (.inl (0 : Int32)), some (.inl (0 : Int32))] [] (gsc σ 15 0 ((0 : Int32) : Int32).toNatClampNeg 16 0 ((0 : Int32) : Int32).toNatClampNeg (x2 : Int32).toNatClampNeg)) : Z 0 [some (.inr (.inr (2, 0))), some (.inr (.inr (15, 0))), some (.inl x2), some (.inl x3), none, none, none] [] σ := hZ _ _ _ _ h
theorem BX2_merge_f15_20 {l : Launch} {G : gG} {A : Nat → Prop} {d : Nat} {post : Option gAV → gT → Prop} {Z : gK} (hZ : gSd l G A d 2 myX2_merge tbX2_merge post Z) {σ : gT} {x2 : Int32} {x3 : Int32} {x4 : Int32} {x5 : Int32} {x6 : Int32} (h : (((2 : Int32) * x2) ≤ x6 → Z 92 [none, none, none, none, none, none, none] [] σ) ∧ (¬ ((2 : Int32) * x2) ≤ x6 → (x2 ≤ x4 → Z 70 [some (.inr (.inr (2, 0))), some (.inr (.inr (15, 0))), some (.inl x2), some (.inl x3), some (.inl x4), some (.inl x5), some (.inl x6)] [] σ) ∧ (¬ x2 ≤ x4 → vp_in x4 256 ∧ vp_in x5 256 ∧ (((σ.1 16 0 (x5 : Int32).toNatClampNeg) + x3) < (σ.1 16 0 (x4 : Int32).toNatClampNeg) → Z 70 [some (.inr (.inr (2, 0))), some (.inr (.inr (15, 0))), some (.inl x2), some (.inl x3), some (.inl x4), some (.inl x5), some (.inl x6)] [] σ) ∧ (¬ ((σ.1 16 0 (x5 : Int32).toNatClampNeg) + x3) < (σ.1 16 0 (x4 : Int32).toNatClampNeg) → vp_in x4 256 ∧ vp_in x6 256 ∧ Z 86 [some (.inr (.inr (2, 0))), some (.inr (.inr (15, 0))), some (.inl x2), some (.inl x3), some (.inl (x4 + (1 : Int32))), some (.inl x5), some (.inl x6)] [] (gsu σ 15 0 (x6 : Int32).toNatClampNeg (σ.1 16 0 (x4 : Int32).toNatClampNeg)))))) : Z 20 [some (.inr (.inr (2, 0))), some (.inr (.inr (15, 0))), some (.inl x2), some (.inl x3), some (.inl x4), some (.inl x5), some (.inl x6)] [] σ := hZ _ _ _ _ h
theorem BX2_merge_f15_70 {l : Launch} {G : gG} {A : Nat → Prop} {d : Nat} {post : Option gAV → gT → Prop} {Z : gK} (hZ : gSd l G A d 2 myX2_merge tbX2_merge post Z) {σ : gT} {x2 : Int32} {x3 : Int32} {x4 : Int32} {x5 : Int32} {x6 : Int32} (h : vp_in x5 256 ∧ vp_in x6 256 ∧ Z 86 [some (.inr (.inr (2, 0))), some (.inr (.inr (15, 0))), some (.inl x2), some (.inl x3), some (.inl x4), some (.inl (x5 + (1 : Int32))), some (.inl x6)] [] (gsu σ 15 0 (x6 : Int32).toNatClampNeg ((σ.1 16 0 (x5 : Int32).toNatClampNeg) + x3))) : Z 70 [some (.inr (.inr (2, 0))), some (.inr (.inr (15, 0))), some (.inl x2), some (.inl x3), some (.inl x4), some (.inl x5), some (.inl x6)] [] σ := hZ _ _ _ _ h
theorem BX2_merge_f15_86 {l : Launch} {G : gG} {A : Nat → Prop} {d : Nat} {post : Option gAV → gT → Prop} {Z : gK} (hZ : gSd l G A d 2 myX2_merge tbX2_merge post Z) {σ : gT} {x2 : Int32} {x3 : Int32} {x4 : Int32} {x5 : Int32} {x6 : Int32} (h : Z 20 [some (.inr (.inr (2, 0))), some (.inr (.inr (15, 0))), some (.inl x2), some (.inl x3), some (.inl x4), some (.inl x5), some (.inl (x6 + (1 : Int32)))] [] σ) : Z 86 [some (.inr (.inr (2, 0))), some (.inr (.inr (15, 0))), some (.inl x2), some (.inl x3), some (.inl x4), some (.inl x5), some (.inl x6)] [] σ := hZ _ _ _ _ h
theorem BX2_merge_f15_92 {l : Launch} {G : gG} {A : Nat → Prop} {d : Nat} {post : Option gAV → gT → Prop} {Z : gK} (hZ : gSd l G A d 2 myX2_merge tbX2_merge post Z) {σ : gT}  (h : post none σ) : Z 92 [none, none, none, none, none, none, none] [] σ := hZ _ _ _ _ h
def tbX3_isMissing : gTb := [(0, [true], [(.aload_n 0, 1), (.getfield 15, 3), (.ifCond .ne 7, 3), (.iconst 1, 1), (.goto 4, 3)]), (11, [false], [(.iconst 0, 1)]), (12, [false], [(.ireturn, 1)])]
theorem tbX3_isMissing_ok : tbX3_isMissing.all (fun e => gokl myX3_isMissing.2.1 e.1 e.2.2) = true := by decide +kernel
theorem okX3_isMissing : plainFor myX3_isMissing.1 = true ∧ myX3_isMissing.1.cls = gcn 3 := by decide +kernel
theorem BX3_isMissing_0 {l : Launch} {G : gG} {A : Nat → Prop} {d : Nat} {post : Option gAV → gT → Prop} {Z : gK} (hZ : gSd l G A d 3 myX3_isMissing tbX3_isMissing post Z) {σ : gT} {i0 : Nat} (h : (¬ (σ.1 3 i0 1) = 0 → Z 11 [none] [] σ) ∧ ((σ.1 3 i0 1) = 0 → Z 12 [none] [.inl (1 : Int32)] σ)) : Z 0 [some (.inr (.inr (3, i0)))] [] σ := hZ _ _ _ _ h
theorem BX3_isMissing_11 {l : Launch} {G : gG} {A : Nat → Prop} {d : Nat} {post : Option gAV → gT → Prop} {Z : gK} (hZ : gSd l G A d 3 myX3_isMissing tbX3_isMissing post Z) {σ : gT}  (h : Z 12 [none] [.inl (0 : Int32)] σ) : Z 11 [none] [] σ := hZ _ _ _ _ h
theorem BX3_isMissing_12 {l : Launch} {G : gG} {A : Nat → Prop} {d : Nat} {post : Option gAV → gT → Prop} {Z : gK} (hZ : gSd l G A d 3 myX3_isMissing tbX3_isMissing post Z) {σ : gT} {t0 : Int32} (h : (t0 = 0 ∨ t0 = 1) ∧ post (some (.inl t0)) σ) : Z 12 [none] [.inl t0] σ := hZ _ _ _ _ h
def tbX3_keepFringes : gTb := [(0, [true, true, true, true, false, false, false], [(.aload_n 0, 1), (.iload_n 3, 1), (.iconst 1, 1), (.invokestatic 19, 3)]), (6, [true, true, true, false, false, false, false], [(.putfield 15, 3), (.iconst 0, 1), (.istore 4, 2)]), (12, [true, true, true, false, true, false, false], [(.iload 4, 2), (.bipush 16, 2), (.if_icmp .ge 70, 3), (.aload_n 1, 1), (.getfield 25, 3), (.iload 4, 2), (.iaload, 1), (.i2l, 1), (.aload_n 2, 1), (.getfield 25, 3), (.iload 4, 2), (.iaload, 1), (.i2l, 1), (.ladd, 1), (.aload_n 1, 1), (.getfield 30, 3), (.iload 4, 2), (.iaload, 1), (.i2l, 1), (.aload_n 2, 1), (.getfield 30, 3), (.iload 4, 2), (.iaload, 1), (.i2l, 1), (.ladd, 1), (.invokestatic 33, 3)]), (56, [true, true, true, false, true, false, false], [(.lstore 5, 2), (.aload_n 0, 1), (.getfield 9, 3), (.iload 4, 2), (.lload 5, 2), (.aload_n 0, 1), (.getfield 15, 3), (.i2l, 1), (.ldiv, 1), (.ldc2_w 37, 3), (.invokestatic 39, 3)]), (78, [true, true, true, false, true, false, false], [(.l2i, 1), (.iastore, 1), (.iinc 4 1, 3), (.goto (-71), 3)]), (86, [false, false, false, false, false, false, false], [(.return_, 1)])]
theorem tbX3_keepFringes_ok : tbX3_keepFringes.all (fun e => gokl myX3_keepFringes.2.1 e.1 e.2.2) = true := by decide +kernel
theorem okX3_keepFringes : plainFor myX3_keepFringes.1 = true ∧ myX3_keepFringes.1.cls = gcn 3 := by decide +kernel
theorem BX3_keepFringes_0 {l : Launch} {G : gG} {A : Nat → Prop} {d : Nat} {post : Option gAV → gT → Prop} {Z : gK} (hZ : gSd l G A d 3 myX3_keepFringes tbX3_keepFringes post Z) {σ : gT} {i0 : Nat} {i1 : Nat} {i2 : Nat} {x3 : Int32} (h : gCx l G A d myJ9_max_7cf53 [.inl x3, .inl (1 : Int32)] σ (fun r s2 => Z 6 [some (.inr (.inr (3, i0))), some (.inr (.inr (8, i1))), some (.inr (.inr (8, i2))), none, none, none, none] (r.toList ++ [.inr (.inr (3, i0))]) s2)) : Z 0 [some (.inr (.inr (3, i0))), some (.inr (.inr (8, i1))), some (.inr (.inr (8, i2))), some (.inl x3), none, none, none] [] σ := hZ _ _ _ _ h
theorem BX3_keepFringes_6 {l : Launch} {G : gG} {A : Nat → Prop} {d : Nat} {post : Option gAV → gT → Prop} {Z : gK} (hZ : gSd l G A d 3 myX3_keepFringes tbX3_keepFringes post Z) {σ : gT} {i0 : Nat} {i1 : Nat} {i2 : Nat} {t0 : Int32} {j1 : Nat} (h : Z 12 [some (.inr (.inr (3, i0))), some (.inr (.inr (8, i1))), some (.inr (.inr (8, i2))), none, some (.inl (0 : Int32)), none, none] [] (gsu σ 3 j1 1 t0)) : Z 6 [some (.inr (.inr (3, i0))), some (.inr (.inr (8, i1))), some (.inr (.inr (8, i2))), none, none, none, none] [.inl t0, .inr (.inr (3, j1))] σ := hZ _ _ _ _ h
theorem BX3_keepFringes_12 {l : Launch} {G : gG} {A : Nat → Prop} {d : Nat} {post : Option gAV → gT → Prop} {Z : gK} (hZ : gSd l G A d 3 myX3_keepFringes tbX3_keepFringes post Z) {σ : gT} {i0 : Nat} {i1 : Nat} {i2 : Nat} {x4 : Int32} (h : ((16 : Int32) ≤ x4 → Z 86 [none, none, none, none, none, none, none] [] σ) ∧ (¬ (16 : Int32) ≤ x4 → vp_in x4 16 ∧ vp_in x4 16 ∧ vp_in x4 16 ∧ vp_in x4 16 ∧ gCx l G A d myX9_brightOf [.inr (.inl (((σ.1 23 i1 (x4 : Int32).toNatClampNeg) : Int32).toInt64 + ((σ.1 23 i2 (x4 : Int32).toNatClampNeg) : Int32).toInt64)), .inr (.inl (((σ.1 24 i1 (x4 : Int32).toNatClampNeg) : Int32).toInt64 + ((σ.1 24 i2 (x4 : Int32).toNatClampNeg) : Int32).toInt64))] σ (fun r s2 => Z 56 [some (.inr (.inr (3, i0))), some (.inr (.inr (8, i1))), some (.inr (.inr (8, i2))), none, some (.inl x4), none, none] (r.toList ++ []) s2))) : Z 12 [some (.inr (.inr (3, i0))), some (.inr (.inr (8, i1))), some (.inr (.inr (8, i2))), none, some (.inl x4), none, none] [] σ := hZ _ _ _ _ h
theorem BX3_keepFringes_56 {l : Launch} {G : gG} {A : Nat → Prop} {d : Nat} {post : Option gAV → gT → Prop} {Z : gK} (hZ : gSd l G A d 3 myX3_keepFringes tbX3_keepFringes post Z) {σ : gT} {i0 : Nat} {i1 : Nat} {i2 : Nat} {x4 : Int32} {u0 : Int64} (h : ¬ ((σ.1 3 i0 1) : Int32).toInt64 = 0 ∧ gCx l G A d myJ9_min_f86c9 [.inr (.inl (u0 / ((σ.1 3 i0 1) : Int32).toInt64)), .inr (.inl (255 : Int64))] σ (fun r s2 => Z 78 [some (.inr (.inr (3, i0))), some (.inr (.inr (8, i1))), some (.inr (.inr (8, i2))), none, some (.inl x4), none, none] (r.toList ++ [.inl x4, .inr (.inr (17, i0))]) s2)) : Z 56 [some (.inr (.inr (3, i0))), some (.inr (.inr (8, i1))), some (.inr (.inr (8, i2))), none, some (.inl x4), none, none] [.inr (.inl u0)] σ := hZ _ _ _ _ h
theorem BX3_keepFringes_78 {l : Launch} {G : gG} {A : Nat → Prop} {d : Nat} {post : Option gAV → gT → Prop} {Z : gK} (hZ : gSd l G A d 3 myX3_keepFringes tbX3_keepFringes post Z) {σ : gT} {i0 : Nat} {i1 : Nat} {i2 : Nat} {x4 : Int32} {u0 : Int64} {t1 : Int32} {j2 : Nat} (h : vp_in t1 16 ∧ Z 12 [some (.inr (.inr (3, i0))), some (.inr (.inr (8, i1))), some (.inr (.inr (8, i2))), none, some (.inl (x4 + (1 : Int32))), none, none] [] (gsu σ 17 j2 (t1 : Int32).toNatClampNeg (u0 : Int64).toInt32)) : Z 78 [some (.inr (.inr (3, i0))), some (.inr (.inr (8, i1))), some (.inr (.inr (8, i2))), none, some (.inl x4), none, none] [.inr (.inl u0), .inl t1, .inr (.inr (17, j2))] σ := hZ _ _ _ _ h
theorem BX3_keepFringes_86 {l : Launch} {G : gG} {A : Nat → Prop} {d : Nat} {post : Option gAV → gT → Prop} {Z : gK} (hZ : gSd l G A d 3 myX3_keepFringes tbX3_keepFringes post Z) {σ : gT}  (h : post none σ) : Z 86 [none, none, none, none, none, none, none] [] σ := hZ _ _ _ _ h
def tbX3_whiteOnes : gTb := [(0, [true], [(.aload_n 0, 1), (.sipush 255, 3), (.invokevirtual 42, 3)]), (7, [false], [(.ireturn, 1)])]
theorem tbX3_whiteOnes_ok : tbX3_whiteOnes.all (fun e => gokl myX3_whiteOnes.2.1 e.1 e.2.2) = true := by decide +kernel
theorem okX3_whiteOnes : plainFor myX3_whiteOnes.1 = true ∧ myX3_whiteOnes.1.cls = gcn 3 := by decide +kernel
theorem BX3_whiteOnes_0 {l : Launch} {G : gG} {A : Nat → Prop} {d : Nat} {post : Option gAV → gT → Prop} {Z : gK} (hZ : gSd l G A d 3 myX3_whiteOnes tbX3_whiteOnes post Z) {σ : gT} {i0 : Nat} (h : gCx l G A d myX3_howMany [.inr (.inr (3, i0)), .inl (255 : Int32)] σ (fun r s2 => Z 7 [none] (r.toList ++ []) s2)) : Z 0 [some (.inr (.inr (3, i0)))] [] σ := hZ _ _ _ _ h
theorem BX3_whiteOnes_7 {l : Launch} {G : gG} {A : Nat → Prop} {d : Nat} {post : Option gAV → gT → Prop} {Z : gK} (hZ : gSd l G A d 3 myX3_whiteOnes tbX3_whiteOnes post Z) {σ : gT} {t0 : Int32} (h : post (some (.inl t0)) σ) : Z 7 [none] [.inl t0] σ := hZ _ _ _ _ h
def tbX3_lostOnes : gTb := [(0, [true], [(.aload_n 0, 1), (.iconst (-1), 1), (.invokevirtual 42, 3)]), (5, [false], [(.ireturn, 1)])]
theorem tbX3_lostOnes_ok : tbX3_lostOnes.all (fun e => gokl myX3_lostOnes.2.1 e.1 e.2.2) = true := by decide +kernel
theorem okX3_lostOnes : plainFor myX3_lostOnes.1 = true ∧ myX3_lostOnes.1.cls = gcn 3 := by decide +kernel
theorem BX3_lostOnes_0 {l : Launch} {G : gG} {A : Nat → Prop} {d : Nat} {post : Option gAV → gT → Prop} {Z : gK} (hZ : gSd l G A d 3 myX3_lostOnes tbX3_lostOnes post Z) {σ : gT} {i0 : Nat} (h : gCx l G A d myX3_howMany [.inr (.inr (3, i0)), .inl (-1 : Int32)] σ (fun r s2 => Z 5 [none] (r.toList ++ []) s2)) : Z 0 [some (.inr (.inr (3, i0)))] [] σ := hZ _ _ _ _ h
theorem BX3_lostOnes_5 {l : Launch} {G : gG} {A : Nat → Prop} {d : Nat} {post : Option gAV → gT → Prop} {Z : gK} (hZ : gSd l G A d 3 myX3_lostOnes tbX3_lostOnes post Z) {σ : gT} {t0 : Int32} (h : post (some (.inl t0)) σ) : Z 5 [none] [.inl t0] σ := hZ _ _ _ _ h
def tbX3_howMany : gTb := [(0, [true, true, false, false], [(.iconst 0, 1), (.istore_n 2, 1), (.iconst 0, 1), (.istore_n 3, 1)]), (4, [true, true, true, true], [(.iload_n 3, 1), (.bipush 16, 2), (.if_icmp .ge 22, 3), (.aload_n 0, 1), (.getfield 9, 3), (.iload_n 3, 1), (.iaload, 1), (.iload_n 1, 1), (.if_icmp .ne 6, 3), (.iinc 2 1, 3)]), (23, [true, true, true, true], [(.iinc 3 1, 3), (.goto (-22), 3)]), (29, [false, false, true, false], [(.iload_n 2, 1), (.ireturn, 1)])]
theorem tbX3_howMany_ok : tbX3_howMany.all (fun e => gokl myX3_howMany.2.1 e.1 e.2.2) = true := by decide +kernel
theorem okX3_howMany : plainFor myX3_howMany.1 = true ∧ myX3_howMany.1.cls = gcn 3 := by decide +kernel
theorem BX3_howMany_0 {l : Launch} {G : gG} {A : Nat → Prop} {d : Nat} {post : Option gAV → gT → Prop} {Z : gK} (hZ : gSd l G A d 3 myX3_howMany tbX3_howMany post Z) {σ : gT} {i0 : Nat} {x1 : Int32} (h : Z 4 [some (.inr (.inr (3, i0))), some (.inl x1), some (.inl (0 : Int32)), some (.inl (0 : Int32))] [] σ) : Z 0 [some (.inr (.inr (3, i0))), some (.inl x1), none, none] [] σ := hZ _ _ _ _ h
theorem BX3_howMany_4 {l : Launch} {G : gG} {A : Nat → Prop} {d : Nat} {post : Option gAV → gT → Prop} {Z : gK} (hZ : gSd l G A d 3 myX3_howMany tbX3_howMany post Z) {σ : gT} {i0 : Nat} {x1 : Int32} {x2 : Int32} {x3 : Int32} (h : ((16 : Int32) ≤ x3 → Z 29 [none, none, some (.inl x2), none] [] σ) ∧ (¬ (16 : Int32) ≤ x3 → vp_in x3 16 ∧ (¬ (σ.1 17 i0 (x3 : Int32).toNatClampNeg) = x1 → Z 23 [some (.inr (.inr (3, i0))), some (.inl x1), some (.inl x2), some (.inl x3)] [] σ) ∧ ((σ.1 17 i0 (x3 : Int32).toNatClampNeg) = x1 → Z 23 [some (.inr (.inr (3, i0))), some (.inl x1), some (.inl (x2 + (1 : Int32))), some (.inl x3)] [] σ))) : Z 4 [some (.inr (.inr (3, i0))), some (.inl x1), some (.inl x2), some (.inl x3)] [] σ := hZ _ _ _ _ h
theorem BX3_howMany_23 {l : Launch} {G : gG} {A : Nat → Prop} {d : Nat} {post : Option gAV → gT → Prop} {Z : gK} (hZ : gSd l G A d 3 myX3_howMany tbX3_howMany post Z) {σ : gT} {i0 : Nat} {x1 : Int32} {x2 : Int32} {x3 : Int32} (h : Z 4 [some (.inr (.inr (3, i0))), some (.inl x1), some (.inl x2), some (.inl (x3 + (1 : Int32)))] [] σ) : Z 23 [some (.inr (.inr (3, i0))), some (.inl x1), some (.inl x2), some (.inl x3)] [] σ := hZ _ _ _ _ h
theorem BX3_howMany_29 {l : Launch} {G : gG} {A : Nat → Prop} {d : Nat} {post : Option gAV → gT → Prop} {Z : gK} (hZ : gSd l G A d 3 myX3_howMany tbX3_howMany post Z) {σ : gT} {x2 : Int32} (h : post (some (.inl x2)) σ) : Z 29 [none, none, some (.inl x2), none] [] σ := hZ _ _ _ _ h
def tbX3_shown : gTb := [(0, [true, true], [(.aload_n 0, 1), (.getfield 9, 3), (.iload_n 1, 1), (.iaload, 1), (.iconst 0, 1), (.invokestatic 19, 3)]), (10, [false, false], [(.ireturn, 1)])]
theorem tbX3_shown_ok : tbX3_shown.all (fun e => gokl myX3_shown.2.1 e.1 e.2.2) = true := by decide +kernel
theorem okX3_shown : plainFor myX3_shown.1 = true ∧ myX3_shown.1.cls = gcn 3 := by decide +kernel
theorem BX3_shown_0 {l : Launch} {G : gG} {A : Nat → Prop} {d : Nat} {post : Option gAV → gT → Prop} {Z : gK} (hZ : gSd l G A d 3 myX3_shown tbX3_shown post Z) {σ : gT} {i0 : Nat} {x1 : Int32} (h : vp_in x1 16 ∧ gCx l G A d myJ9_max_7cf53 [.inl (σ.1 17 i0 (x1 : Int32).toNatClampNeg), .inl (0 : Int32)] σ (fun r s2 => Z 10 [none, none] (r.toList ++ []) s2)) : Z 0 [some (.inr (.inr (3, i0))), some (.inl x1)] [] σ := hZ _ _ _ _ h
theorem BX3_shown_10 {l : Launch} {G : gG} {A : Nat → Prop} {d : Nat} {post : Option gAV → gT → Prop} {Z : gK} (hZ : gSd l G A d 3 myX3_shown tbX3_shown post Z) {σ : gT} {t0 : Int32} (h : post (some (.inl t0)) σ) : Z 10 [none, none] [.inl t0] σ := hZ _ _ _ _ h
def tbX3_weight : gTb := [(0, [true, true], [(.aload_n 0, 1), (.iload_n 1, 1), (.invokevirtual 46, 3)]), (5, [true, false], [(.i2l, 1), (.aload_n 0, 1), (.getfield 15, 3), (.i2l, 1), (.lmul, 1), (.lreturn, 1)])]
theorem tbX3_weight_ok : tbX3_weight.all (fun e => gokl myX3_weight.2.1 e.1 e.2.2) = true := by decide +kernel
theorem okX3_weight : plainFor myX3_weight.1 = true ∧ myX3_weight.1.cls = gcn 3 := by decide +kernel
theorem BX3_weight_0 {l : Launch} {G : gG} {A : Nat → Prop} {d : Nat} {post : Option gAV → gT → Prop} {Z : gK} (hZ : gSd l G A d 3 myX3_weight tbX3_weight post Z) {σ : gT} {i0 : Nat} {x1 : Int32} (h : gCx l G A d myX3_shown [.inr (.inr (3, i0)), .inl x1] σ (fun r s2 => Z 5 [some (.inr (.inr (3, i0))), none] (r.toList ++ []) s2)) : Z 0 [some (.inr (.inr (3, i0))), some (.inl x1)] [] σ := hZ _ _ _ _ h
theorem BX3_weight_5 {l : Launch} {G : gG} {A : Nat → Prop} {d : Nat} {post : Option gAV → gT → Prop} {Z : gK} (hZ : gSd l G A d 3 myX3_weight tbX3_weight post Z) {σ : gT} {i0 : Nat} {t0 : Int32} (h : post (some (.inr (.inl ((t0 : Int32).toInt64 * ((σ.1 3 i0 1) : Int32).toInt64)))) σ) : Z 5 [some (.inr (.inr (3, i0))), none] [.inl t0] σ := hZ _ _ _ _ h
def tbX3_total : gTb := [(0, [true], [(.aload_n 0, 1), (.ldc 51, 2), (.invokevirtual 52, 3)]), (6, [false], [(.ireturn, 1)])]
theorem tbX3_total_ok : tbX3_total.all (fun e => gokl myX3_total.2.1 e.1 e.2.2) = true := by decide +kernel
theorem okX3_total : plainFor myX3_total.1 = true ∧ myX3_total.1.cls = gcn 3 := by decide +kernel
theorem BX3_total_0 {l : Launch} {G : gG} {A : Nat → Prop} {d : Nat} {post : Option gAV → gT → Prop} {Z : gK} (hZ : gSd l G A d 3 myX3_total tbX3_total post Z) {σ : gT} {i0 : Nat} (h : gCx l G A d myX3_totalWithin [.inr (.inr (3, i0)), .inl (65535 : Int32)] σ (fun r s2 => Z 6 [none] (r.toList ++ []) s2)) : Z 0 [some (.inr (.inr (3, i0)))] [] σ := hZ _ _ _ _ h
theorem BX3_total_6 {l : Launch} {G : gG} {A : Nat → Prop} {d : Nat} {post : Option gAV → gT → Prop} {Z : gK} (hZ : gSd l G A d 3 myX3_total tbX3_total post Z) {σ : gT} {t0 : Int32} (h : post (some (.inl t0)) σ) : Z 6 [none] [.inl t0] σ := hZ _ _ _ _ h
def tbX3_totalWithin : gTb := [(0, [true, true, false, false], [(.iconst 0, 1), (.istore_n 2, 1), (.iconst 0, 1), (.istore_n 3, 1)]), (4, [true, true, true, true], [(.iload_n 3, 1), (.bipush 16, 2), (.if_icmp .ge 26, 3), (.iload_n 1, 1), (.iload_n 3, 1), (.ishr, 1), (.iconst 1, 1), (.iand, 1), (.iconst 1, 1), (.if_icmp .ne 11, 3), (.iload_n 2, 1), (.aload_n 0, 1), (.iload_n 3, 1), (.invokevirtual 46, 3)]), (25, [true, true, false, true], [(.iadd, 1), (.istore_n 2, 1)]), (27, [true, true, true, true], [(.iinc 3 1, 3), (.goto (-26), 3)]), (33, [false, false, true, false], [(.iload_n 2, 1), (.ireturn, 1)])]
theorem tbX3_totalWithin_ok : tbX3_totalWithin.all (fun e => gokl myX3_totalWithin.2.1 e.1 e.2.2) = true := by decide +kernel
theorem okX3_totalWithin : plainFor myX3_totalWithin.1 = true ∧ myX3_totalWithin.1.cls = gcn 3 := by decide +kernel
theorem BX3_totalWithin_0 {l : Launch} {G : gG} {A : Nat → Prop} {d : Nat} {post : Option gAV → gT → Prop} {Z : gK} (hZ : gSd l G A d 3 myX3_totalWithin tbX3_totalWithin post Z) {σ : gT} {i0 : Nat} {x1 : Int32} (h : Z 4 [some (.inr (.inr (3, i0))), some (.inl x1), some (.inl (0 : Int32)), some (.inl (0 : Int32))] [] σ) : Z 0 [some (.inr (.inr (3, i0))), some (.inl x1), none, none] [] σ := hZ _ _ _ _ h
theorem BX3_totalWithin_4 {l : Launch} {G : gG} {A : Nat → Prop} {d : Nat} {post : Option gAV → gT → Prop} {Z : gK} (hZ : gSd l G A d 3 myX3_totalWithin tbX3_totalWithin post Z) {σ : gT} {i0 : Nat} {x1 : Int32} {x2 : Int32} {x3 : Int32} (h : ((16 : Int32) ≤ x3 → Z 33 [none, none, some (.inl x2), none] [] σ) ∧ (¬ (16 : Int32) ≤ x3 → (¬ ((x1 >>> (x3 &&& 31)) &&& (1 : Int32)) = (1 : Int32) → Z 27 [some (.inr (.inr (3, i0))), some (.inl x1), some (.inl x2), some (.inl x3)] [] σ) ∧ (((x1 >>> (x3 &&& 31)) &&& (1 : Int32)) = (1 : Int32) → gCx l G A d myX3_shown [.inr (.inr (3, i0)), .inl x3] σ (fun r s2 => Z 25 [some (.inr (.inr (3, i0))), some (.inl x1), none, some (.inl x3)] (r.toList ++ [.inl x2]) s2)))) : Z 4 [some (.inr (.inr (3, i0))), some (.inl x1), some (.inl x2), some (.inl x3)] [] σ := hZ _ _ _ _ h
theorem BX3_totalWithin_25 {l : Launch} {G : gG} {A : Nat → Prop} {d : Nat} {post : Option gAV → gT → Prop} {Z : gK} (hZ : gSd l G A d 3 myX3_totalWithin tbX3_totalWithin post Z) {σ : gT} {i0 : Nat} {x1 : Int32} {x3 : Int32} {t0 : Int32} {t1 : Int32} (h : Z 27 [some (.inr (.inr (3, i0))), some (.inl x1), some (.inl (t1 + t0)), some (.inl x3)] [] σ) : Z 25 [some (.inr (.inr (3, i0))), some (.inl x1), none, some (.inl x3)] [.inl t0, .inl t1] σ := hZ _ _ _ _ h
theorem BX3_totalWithin_27 {l : Launch} {G : gG} {A : Nat → Prop} {d : Nat} {post : Option gAV → gT → Prop} {Z : gK} (hZ : gSd l G A d 3 myX3_totalWithin tbX3_totalWithin post Z) {σ : gT} {i0 : Nat} {x1 : Int32} {x2 : Int32} {x3 : Int32} (h : Z 4 [some (.inr (.inr (3, i0))), some (.inl x1), some (.inl x2), some (.inl (x3 + (1 : Int32)))] [] σ) : Z 27 [some (.inr (.inr (3, i0))), some (.inl x1), some (.inl x2), some (.inl x3)] [] σ := hZ _ _ _ _ h
theorem BX3_totalWithin_33 {l : Launch} {G : gG} {A : Nat → Prop} {d : Nat} {post : Option gAV → gT → Prop} {Z : gK} (hZ : gSd l G A d 3 myX3_totalWithin tbX3_totalWithin post Z) {σ : gT} {x2 : Int32} (h : post (some (.inl x2)) σ) : Z 33 [none, none, some (.inl x2), none] [] σ := hZ _ _ _ _ h
def tbX3_greatest : gTb := [(0, [true, false, false], [(.iconst 0, 1), (.istore_n 1, 1), (.iconst 0, 1), (.istore_n 2, 1)]), (4, [true, true, true], [(.iload_n 2, 1), (.bipush 16, 2), (.if_icmp .ge 19, 3), (.iload_n 1, 1), (.aload_n 0, 1), (.iload_n 2, 1), (.invokevirtual 46, 3)]), (16, [true, false, true], [(.invokestatic 19, 3)]), (19, [true, false, true], [(.istore_n 1, 1), (.iinc 2 1, 3), (.goto (-19), 3)]), (26, [false, true, false], [(.iload_n 1, 1), (.ireturn, 1)])]
theorem tbX3_greatest_ok : tbX3_greatest.all (fun e => gokl myX3_greatest.2.1 e.1 e.2.2) = true := by decide +kernel
theorem okX3_greatest : plainFor myX3_greatest.1 = true ∧ myX3_greatest.1.cls = gcn 3 := by decide +kernel
theorem BX3_greatest_0 {l : Launch} {G : gG} {A : Nat → Prop} {d : Nat} {post : Option gAV → gT → Prop} {Z : gK} (hZ : gSd l G A d 3 myX3_greatest tbX3_greatest post Z) {σ : gT} {i0 : Nat} (h : Z 4 [some (.inr (.inr (3, i0))), some (.inl (0 : Int32)), some (.inl (0 : Int32))] [] σ) : Z 0 [some (.inr (.inr (3, i0))), none, none] [] σ := hZ _ _ _ _ h
theorem BX3_greatest_4 {l : Launch} {G : gG} {A : Nat → Prop} {d : Nat} {post : Option gAV → gT → Prop} {Z : gK} (hZ : gSd l G A d 3 myX3_greatest tbX3_greatest post Z) {σ : gT} {i0 : Nat} {x1 : Int32} {x2 : Int32} (h : ((16 : Int32) ≤ x2 → Z 26 [none, some (.inl x1), none] [] σ) ∧ (¬ (16 : Int32) ≤ x2 → gCx l G A d myX3_shown [.inr (.inr (3, i0)), .inl x2] σ (fun r s2 => Z 16 [some (.inr (.inr (3, i0))), none, some (.inl x2)] (r.toList ++ [.inl x1]) s2))) : Z 4 [some (.inr (.inr (3, i0))), some (.inl x1), some (.inl x2)] [] σ := hZ _ _ _ _ h
theorem BX3_greatest_16 {l : Launch} {G : gG} {A : Nat → Prop} {d : Nat} {post : Option gAV → gT → Prop} {Z : gK} (hZ : gSd l G A d 3 myX3_greatest tbX3_greatest post Z) {σ : gT} {i0 : Nat} {x2 : Int32} {t0 : Int32} {t1 : Int32} (h : gCx l G A d myJ9_max_7cf53 [.inl t1, .inl t0] σ (fun r s2 => Z 19 [some (.inr (.inr (3, i0))), none, some (.inl x2)] (r.toList ++ []) s2)) : Z 16 [some (.inr (.inr (3, i0))), none, some (.inl x2)] [.inl t0, .inl t1] σ := hZ _ _ _ _ h
theorem BX3_greatest_19 {l : Launch} {G : gG} {A : Nat → Prop} {d : Nat} {post : Option gAV → gT → Prop} {Z : gK} (hZ : gSd l G A d 3 myX3_greatest tbX3_greatest post Z) {σ : gT} {i0 : Nat} {x2 : Int32} {t0 : Int32} (h : Z 4 [some (.inr (.inr (3, i0))), some (.inl t0), some (.inl (x2 + (1 : Int32)))] [] σ) : Z 19 [some (.inr (.inr (3, i0))), none, some (.inl x2)] [.inl t0] σ := hZ _ _ _ _ h
theorem BX3_greatest_26 {l : Launch} {G : gG} {A : Nat → Prop} {d : Nat} {post : Option gAV → gT → Prop} {Z : gK} (hZ : gSd l G A d 3 myX3_greatest tbX3_greatest post Z) {σ : gT} {x1 : Int32} (h : post (some (.inl x1)) σ) : Z 26 [none, some (.inl x1), none] [] σ := hZ _ _ _ _ h
def tbX3_kindTold : gTb := [(0, [true, false], [(.aload_n 0, 1), (.invokevirtual 55, 3)]), (4, [true, false], [(.istore_n 1, 1), (.iload_n 1, 1), (.ifCond .le 15, 3), (.iload_n 1, 1), (.bipush 8, 2), (.if_icmp .lt 7, 3), (.iconst 4, 1), (.goto 4, 3)]), (19, [false, false], [(.iconst 3, 1)]), (20, [false, false], [(.ireturn, 1)]), (21, [true, false], [(.aload_n 0, 1), (.invokevirtual 59, 3)]), (25, [false, false], [(.ifCond .ne 7, 3), (.iconst 2, 1), (.goto 4, 3)]), (32, [false, false], [(.iconst 1, 1)]), (33, [false, false], [(.ireturn, 1)])]
theorem tbX3_kindTold_ok : tbX3_kindTold.all (fun e => gokl myX3_kindTold.2.1 e.1 e.2.2) = true := by decide +kernel
theorem okX3_kindTold : plainFor myX3_kindTold.1 = true ∧ myX3_kindTold.1.cls = gcn 3 := by decide +kernel
theorem BX3_kindTold_0 {l : Launch} {G : gG} {A : Nat → Prop} {d : Nat} {post : Option gAV → gT → Prop} {Z : gK} (hZ : gSd l G A d 3 myX3_kindTold tbX3_kindTold post Z) {σ : gT} {i0 : Nat} (h : gCx l G A d myX3_lostOnes [.inr (.inr (3, i0))] σ (fun r s2 => Z 4 [some (.inr (.inr (3, i0))), none] (r.toList ++ []) s2)) : Z 0 [some (.inr (.inr (3, i0))), none] [] σ := hZ _ _ _ _ h
theorem BX3_kindTold_4 {l : Launch} {G : gG} {A : Nat → Prop} {d : Nat} {post : Option gAV → gT → Prop} {Z : gK} (hZ : gSd l G A d 3 myX3_kindTold tbX3_kindTold post Z) {σ : gT} {i0 : Nat} {t0 : Int32} (h : (t0 ≤ 0 → Z 21 [some (.inr (.inr (3, i0))), none] [] σ) ∧ (¬ t0 ≤ 0 → (t0 < (8 : Int32) → Z 19 [none, none] [] σ) ∧ (¬ t0 < (8 : Int32) → Z 20 [none, none] [.inl (4 : Int32)] σ))) : Z 4 [some (.inr (.inr (3, i0))), none] [.inl t0] σ := hZ _ _ _ _ h
theorem BX3_kindTold_19 {l : Launch} {G : gG} {A : Nat → Prop} {d : Nat} {post : Option gAV → gT → Prop} {Z : gK} (hZ : gSd l G A d 3 myX3_kindTold tbX3_kindTold post Z) {σ : gT}  (h : Z 20 [none, none] [.inl (3 : Int32)] σ) : Z 19 [none, none] [] σ := hZ _ _ _ _ h
theorem BX3_kindTold_20 {l : Launch} {G : gG} {A : Nat → Prop} {d : Nat} {post : Option gAV → gT → Prop} {Z : gK} (hZ : gSd l G A d 3 myX3_kindTold tbX3_kindTold post Z) {σ : gT} {t0 : Int32} (h : post (some (.inl t0)) σ) : Z 20 [none, none] [.inl t0] σ := hZ _ _ _ _ h
theorem BX3_kindTold_21 {l : Launch} {G : gG} {A : Nat → Prop} {d : Nat} {post : Option gAV → gT → Prop} {Z : gK} (hZ : gSd l G A d 3 myX3_kindTold tbX3_kindTold post Z) {σ : gT} {i0 : Nat} (h : gCx l G A d myX3_whiteOnes [.inr (.inr (3, i0))] σ (fun r s2 => Z 25 [none, none] (r.toList ++ []) s2)) : Z 21 [some (.inr (.inr (3, i0))), none] [] σ := hZ _ _ _ _ h
theorem BX3_kindTold_25 {l : Launch} {G : gG} {A : Nat → Prop} {d : Nat} {post : Option gAV → gT → Prop} {Z : gK} (hZ : gSd l G A d 3 myX3_kindTold tbX3_kindTold post Z) {σ : gT} {t0 : Int32} (h : (¬ t0 = 0 → Z 32 [none, none] [] σ) ∧ (t0 = 0 → Z 33 [none, none] [.inl (2 : Int32)] σ)) : Z 25 [none, none] [.inl t0] σ := hZ _ _ _ _ h
theorem BX3_kindTold_32 {l : Launch} {G : gG} {A : Nat → Prop} {d : Nat} {post : Option gAV → gT → Prop} {Z : gK} (hZ : gSd l G A d 3 myX3_kindTold tbX3_kindTold post Z) {σ : gT}  (h : Z 33 [none, none] [.inl (1 : Int32)] σ) : Z 32 [none, none] [] σ := hZ _ _ _ _ h
theorem BX3_kindTold_33 {l : Launch} {G : gG} {A : Nat → Prop} {d : Nat} {post : Option gAV → gT → Prop} {Z : gK} (hZ : gSd l G A d 3 myX3_kindTold tbX3_kindTold post Z) {σ : gT} {t0 : Int32} (h : post (some (.inl t0)) σ) : Z 33 [none, none] [.inl t0] σ := hZ _ _ _ _ h
def tbX3_isOf : gTb := [(0, [true, true, false], [(.aload_n 0, 1), (.invokevirtual 62, 3)]), (4, [false, true, false], [(.istore_n 2, 1), (.iload_n 1, 1), (.ifCond .eq 16, 3), (.iload_n 1, 1), (.iload_n 2, 1), (.if_icmp .eq 11, 3), (.iload_n 1, 1), (.iload_n 2, 1), (.invokestatic 65, 3)]), (19, [false, false, false], [(.if_icmp .ne 7, 3)]), (22, [false, false, false], [(.iconst 1, 1), (.goto 4, 3)]), (26, [false, false, false], [(.iconst 0, 1)]), (27, [false, false, false], [(.ireturn, 1)])]
theorem tbX3_isOf_ok : tbX3_isOf.all (fun e => gokl myX3_isOf.2.1 e.1 e.2.2) = true := by decide +kernel
theorem okX3_isOf : plainFor myX3_isOf.1 = true ∧ myX3_isOf.1.cls = gcn 3 := by decide +kernel
theorem BX3_isOf_0 {l : Launch} {G : gG} {A : Nat → Prop} {d : Nat} {post : Option gAV → gT → Prop} {Z : gK} (hZ : gSd l G A d 3 myX3_isOf tbX3_isOf post Z) {σ : gT} {i0 : Nat} {x1 : Int32} (h : gCx l G A d myX3_kindTold [.inr (.inr (3, i0))] σ (fun r s2 => Z 4 [none, some (.inl x1), none] (r.toList ++ []) s2)) : Z 0 [some (.inr (.inr (3, i0))), some (.inl x1), none] [] σ := hZ _ _ _ _ h
theorem BX3_isOf_4 {l : Launch} {G : gG} {A : Nat → Prop} {d : Nat} {post : Option gAV → gT → Prop} {Z : gK} (hZ : gSd l G A d 3 myX3_isOf tbX3_isOf post Z) {σ : gT} {x1 : Int32} {t0 : Int32} (h : (x1 = 0 → Z 22 [none, none, none] [] σ) ∧ (¬ x1 = 0 → (x1 = t0 → Z 22 [none, none, none] [] σ) ∧ (¬ x1 = t0 → gCx l G A d myX3_kindAbove [.inl t0] σ (fun r s2 => Z 19 [none, none, none] (r.toList ++ [.inl x1]) s2)))) : Z 4 [none, some (.inl x1), none] [.inl t0] σ := hZ _ _ _ _ h
theorem BX3_isOf_19 {l : Launch} {G : gG} {A : Nat → Prop} {d : Nat} {post : Option gAV → gT → Prop} {Z : gK} (hZ : gSd l G A d 3 myX3_isOf tbX3_isOf post Z) {σ : gT} {t0 : Int32} {t1 : Int32} (h : (¬ t1 = t0 → Z 26 [none, none, none] [] σ) ∧ (t1 = t0 → Z 22 [none, none, none] [] σ)) : Z 19 [none, none, none] [.inl t0, .inl t1] σ := hZ _ _ _ _ h
theorem BX3_isOf_22 {l : Launch} {G : gG} {A : Nat → Prop} {d : Nat} {post : Option gAV → gT → Prop} {Z : gK} (hZ : gSd l G A d 3 myX3_isOf tbX3_isOf post Z) {σ : gT}  (h : Z 27 [none, none, none] [.inl (1 : Int32)] σ) : Z 22 [none, none, none] [] σ := hZ _ _ _ _ h
theorem BX3_isOf_26 {l : Launch} {G : gG} {A : Nat → Prop} {d : Nat} {post : Option gAV → gT → Prop} {Z : gK} (hZ : gSd l G A d 3 myX3_isOf tbX3_isOf post Z) {σ : gT}  (h : Z 27 [none, none, none] [.inl (0 : Int32)] σ) : Z 26 [none, none, none] [] σ := hZ _ _ _ _ h
theorem BX3_isOf_27 {l : Launch} {G : gG} {A : Nat → Prop} {d : Nat} {post : Option gAV → gT → Prop} {Z : gK} (hZ : gSd l G A d 3 myX3_isOf tbX3_isOf post Z) {σ : gT} {t0 : Int32} (h : (t0 = 0 ∨ t0 = 1) ∧ post (some (.inl t0)) σ) : Z 27 [none, none, none] [.inl t0] σ := hZ _ _ _ _ h
def tbX3_kindAbove : gTb := [(0, [true], [(.iload_n 0, 1), (.lookupswitch 31 #[(2, 27), (4, 29)], 27)]), (28, [false], [(.iconst 1, 1), (.ireturn, 1)]), (30, [false], [(.iconst 3, 1), (.ireturn, 1)]), (32, [false], [(.iconst 0, 1), (.ireturn, 1)])]
theorem tbX3_kindAbove_ok : tbX3_kindAbove.all (fun e => gokl myX3_kindAbove.2.1 e.1 e.2.2) = true := by decide +kernel
theorem okX3_kindAbove : plainFor myX3_kindAbove.1 = true ∧ myX3_kindAbove.1.cls = gcn 3 := by decide +kernel
theorem BX3_kindAbove_0 {l : Launch} {G : gG} {A : Nat → Prop} {d : Nat} {post : Option gAV → gT → Prop} {Z : gK} (hZ : gSd l G A d 3 myX3_kindAbove tbX3_kindAbove post Z) {σ : gT} {x0 : Int32} (h : ((x0 : Int32).toInt = 2 → Z 28 [none] [] σ) ∧ (¬ (x0 : Int32).toInt = 2 → ((x0 : Int32).toInt = 4 → Z 30 [none] [] σ) ∧ (¬ (x0 : Int32).toInt = 4 → Z 32 [none] [] σ))) : Z 0 [some (.inl x0)] [] σ := hZ _ _ _ _ h
theorem BX3_kindAbove_28 {l : Launch} {G : gG} {A : Nat → Prop} {d : Nat} {post : Option gAV → gT → Prop} {Z : gK} (hZ : gSd l G A d 3 myX3_kindAbove tbX3_kindAbove post Z) {σ : gT}  (h : post (some (.inl (1 : Int32))) σ) : Z 28 [none] [] σ := hZ _ _ _ _ h
theorem BX3_kindAbove_30 {l : Launch} {G : gG} {A : Nat → Prop} {d : Nat} {post : Option gAV → gT → Prop} {Z : gK} (hZ : gSd l G A d 3 myX3_kindAbove tbX3_kindAbove post Z) {σ : gT}  (h : post (some (.inl (3 : Int32))) σ) : Z 30 [none] [] σ := hZ _ _ _ _ h
theorem BX3_kindAbove_32 {l : Launch} {G : gG} {A : Nat → Prop} {d : Nat} {post : Option gAV → gT → Prop} {Z : gK} (hZ : gSd l G A d 3 myX3_kindAbove tbX3_kindAbove post Z) {σ : gT}  (h : post (some (.inl (0 : Int32))) σ) : Z 32 [none] [] σ := hZ _ _ _ _ h
end
