/-! THE TABLES ARE TRUE: every word that they name stands in lw_tbl at its place -/
def gin (p : Nat) (w : Cond) : Bool := (match lw_tbl[p]? with
  | some u => decide (u = w)
  | none => false) && goodWord w
theorem gin_ok {p : Nat} {w : Cond} (h : gin p w = true) : w ∈ gWs := by
  unfold gin at h
  rw [Bool.and_eq_true] at h
  obtain ⟨h1, h2⟩ := h
  split at h1
  · rename_i u hu
    have hz := of_decide_eq_true h1
    subst hz
    exact List.mem_filter.mpr ⟨List.mem_of_getElem? hu, h2⟩
  · cases h1
def gchkF (o : Nat) (e : Nat × Nat × Nat × Nat) : Bool := match gCl[e.2.1]? with
  | some q => decide (e.2.2.1 < q.2.2) && decide (e.2.1 < 11) && gin e.2.2.2 (.fieldLink (gcn o) e.1 (q.2.1 e.2.2.1).1 (q.2.1 e.2.2.1).2.1 (q.2.1 e.2.2.1).2.2.1)
  | none => false
def gchkC (o : Nat) (e : Nat × gAV × Nat) : Bool := match e.2.1 with
  | .inl x => gin e.2.2 (.constant (gcn o) e.1 x)
  | .inr (.inl y) => gin e.2.2 (.constantLong (gcn o) e.1 y)
  | _ => false
def gchkY (my : gMY) (n : Nat) : Bool := plainFor my.1 && decide (my.1.cls ≠ "java/lang/invoke/MethodHandle") && decide (my.1.cls ≠ "java/lang/invoke/VarHandle") && decide ((parseMethodDescriptor my.1.desc).map (fun d => d.parameters.length) = some n) && decide (my.2.2.1 ≤ 40)
def gchkI (o : Nat) (e : Nat × Nat × Nat × gMY × List Nat) : Bool :=
  gin (e.2.2.2.2.getD 3 0) (.code e.2.2.2.1.1 e.2.2.2.1.2.1 e.2.2.2.1.2.2.1 e.2.2.2.1.2.2.2) && gin (e.2.2.2.2.getD 4 0) (.initialized e.2.2.2.1.1.cls) &&
  (match e.2.1 with
  | 0 => gchkY e.2.2.2.1 e.2.2.1 && gin (e.2.2.2.2.getD 0 0) (.methodLink (gcn o) e.1 e.2.2.2.1.1) && gin (e.2.2.2.2.getD 1 0) (.static e.2.2.2.1.1)
  | 2 => gchkY e.2.2.2.1 e.2.2.1 && gin (e.2.2.2.2.getD 1 0) (.static e.2.2.2.1.1)
  | kd => decide (100 ≤ kd) && (decide (kd - 100 < 11) || decide (kd = 114)) && decide (1 ≤ e.2.2.1) && gchkY e.2.2.2.1 (e.2.2.1 - 1) && decide (gcn (kd - 100) = e.2.2.2.1.1.cls) && gin (e.2.2.2.2.getD 0 0) (.methodLink (gcn o) e.1 e.2.2.2.1.1) && gin (e.2.2.2.2.getD 1 0) (.instanceMethod e.2.2.2.1.1) && gin (e.2.2.2.2.getD 2 0) (.selects e.2.2.2.1.1.cls e.2.2.2.1.1 e.2.2.2.1.1))
theorem gFL0_0 : gchkF 0 (11, 0, 0, 174) = true := by decide +kernel
theorem gFL0_1 : gchkF 0 (15, 0, 1, 176) = true := by decide +kernel
theorem gFL0_2 : gchkF 0 (63, 3, 2, 229) = true := by decide +kernel
theorem gFL0_ok : ∀ e ∈ gFL0, gchkF 0 e = true := List.forall_mem_cons.mpr ⟨gFL0_0, List.forall_mem_cons.mpr ⟨gFL0_1, List.forall_mem_cons.mpr ⟨gFL0_2, fun _ h => absurd h List.not_mem_nil⟩⟩⟩
theorem gFL1_0 : gchkF 1 (9, 1, 0, 73) = true := by decide +kernel
theorem gFL1_1 : gchkF 1 (15, 1, 1, 74) = true := by decide +kernel
theorem gFL1_2 : gchkF 1 (24, 8, 0, 207) = true := by decide +kernel
theorem gFL1_3 : gchkF 1 (29, 8, 1, 211) = true := by decide +kernel
theorem gFL1_ok : ∀ e ∈ gFL1, gchkF 1 e = true := List.forall_mem_cons.mpr ⟨gFL1_0, List.forall_mem_cons.mpr ⟨gFL1_1, List.forall_mem_cons.mpr ⟨gFL1_2, List.forall_mem_cons.mpr ⟨gFL1_3, fun _ h => absurd h List.not_mem_nil⟩⟩⟩⟩
theorem gFL2_0 : gchkF 2 (9, 2, 0, 158) = true := by decide +kernel
theorem gFL2_1 : gchkF 2 (13, 2, 1, 159) = true := by decide +kernel
theorem gFL2_2 : gchkF 2 (16, 2, 2, 160) = true := by decide +kernel
theorem gFL2_3 : gchkF 2 (23, 3, 0, 225) = true := by decide +kernel
theorem gFL2_ok : ∀ e ∈ gFL2, gchkF 2 e = true := List.forall_mem_cons.mpr ⟨gFL2_0, List.forall_mem_cons.mpr ⟨gFL2_1, List.forall_mem_cons.mpr ⟨gFL2_2, List.forall_mem_cons.mpr ⟨gFL2_3, fun _ h => absurd h List.not_mem_nil⟩⟩⟩⟩
theorem gFL3_0 : gchkF 3 (28, 8, 0, 208) = true := by decide +kernel
theorem gFL3_1 : gchkF 3 (33, 8, 1, 212) = true := by decide +kernel
theorem gFL3_2 : gchkF 3 (9, 3, 0, 224) = true := by decide +kernel
theorem gFL3_3 : gchkF 3 (15, 3, 1, 226) = true := by decide +kernel
theorem gFL3_4 : gchkF 3 (19, 3, 2, 228) = true := by decide +kernel
theorem gFL3_ok : ∀ e ∈ gFL3, gchkF 3 e = true := List.forall_mem_cons.mpr ⟨gFL3_0, List.forall_mem_cons.mpr ⟨gFL3_1, List.forall_mem_cons.mpr ⟨gFL3_2, List.forall_mem_cons.mpr ⟨gFL3_3, List.forall_mem_cons.mpr ⟨gFL3_4, fun _ h => absurd h List.not_mem_nil⟩⟩⟩⟩⟩
theorem gFL4_0 : gchkF 4 (11, 4, 0, 145) = true := by decide +kernel
theorem gFL4_1 : gchkF 4 (15, 4, 1, 146) = true := by decide +kernel
theorem gFL4_ok : ∀ e ∈ gFL4, gchkF 4 e = true := List.forall_mem_cons.mpr ⟨gFL4_0, List.forall_mem_cons.mpr ⟨gFL4_1, fun _ h => absurd h List.not_mem_nil⟩⟩
theorem gFL5_0 : gchkF 5 (58, 7, 2, 91) = true := by decide +kernel
theorem gFL5_1 : gchkF 5 (36, 7, 4, 94) = true := by decide +kernel
theorem gFL5_2 : gchkF 5 (55, 7, 5, 96) = true := by decide +kernel
theorem gFL5_3 : gchkF 5 (13, 5, 0, 117) = true := by decide +kernel
theorem gFL5_4 : gchkF 5 (17, 5, 1, 119) = true := by decide +kernel
theorem gFL5_5 : gchkF 5 (20, 5, 2, 121) = true := by decide +kernel
theorem gFL5_6 : gchkF 5 (24, 5, 3, 123) = true := by decide +kernel
theorem gFL5_7 : gchkF 5 (27, 5, 4, 125) = true := by decide +kernel
theorem gFL5_ok : ∀ e ∈ gFL5, gchkF 5 e = true := List.forall_mem_cons.mpr ⟨gFL5_0, List.forall_mem_cons.mpr ⟨gFL5_1, List.forall_mem_cons.mpr ⟨gFL5_2, List.forall_mem_cons.mpr ⟨gFL5_3, List.forall_mem_cons.mpr ⟨gFL5_4, List.forall_mem_cons.mpr ⟨gFL5_5, List.forall_mem_cons.mpr ⟨gFL5_6, List.forall_mem_cons.mpr ⟨gFL5_7, fun _ h => absurd h List.not_mem_nil⟩⟩⟩⟩⟩⟩⟩⟩
theorem gFL6_0 : gchkF 6 (9, 6, 0, 188) = true := by decide +kernel
theorem gFL6_1 : gchkF 6 (15, 6, 1, 190) = true := by decide +kernel
theorem gFL6_2 : gchkF 6 (19, 6, 2, 192) = true := by decide +kernel
theorem gFL6_ok : ∀ e ∈ gFL6, gchkF 6 e = true := List.forall_mem_cons.mpr ⟨gFL6_0, List.forall_mem_cons.mpr ⟨gFL6_1, List.forall_mem_cons.mpr ⟨gFL6_2, fun _ h => absurd h List.not_mem_nil⟩⟩⟩
theorem gFL7_0 : gchkF 7 (9, 7, 0, 87) = true := by decide +kernel
theorem gFL7_1 : gchkF 7 (13, 7, 1, 88) = true := by decide +kernel
theorem gFL7_2 : gchkF 7 (17, 7, 2, 90) = true := by decide +kernel
theorem gFL7_3 : gchkF 7 (20, 7, 3, 92) = true := by decide +kernel
theorem gFL7_4 : gchkF 7 (23, 7, 4, 93) = true := by decide +kernel
theorem gFL7_5 : gchkF 7 (26, 7, 5, 95) = true := by decide +kernel
theorem gFL7_ok : ∀ e ∈ gFL7, gchkF 7 e = true := List.forall_mem_cons.mpr ⟨gFL7_0, List.forall_mem_cons.mpr ⟨gFL7_1, List.forall_mem_cons.mpr ⟨gFL7_2, List.forall_mem_cons.mpr ⟨gFL7_3, List.forall_mem_cons.mpr ⟨gFL7_4, List.forall_mem_cons.mpr ⟨gFL7_5, fun _ h => absurd h List.not_mem_nil⟩⟩⟩⟩⟩⟩
theorem gFL8_0 : gchkF 8 (9, 8, 0, 206) = true := by decide +kernel
theorem gFL8_1 : gchkF 8 (15, 8, 1, 210) = true := by decide +kernel
theorem gFL8_ok : ∀ e ∈ gFL8, gchkF 8 e = true := List.forall_mem_cons.mpr ⟨gFL8_0, List.forall_mem_cons.mpr ⟨gFL8_1, fun _ h => absurd h List.not_mem_nil⟩⟩
theorem gFL9_0 : gchkF 9 (132, 7, 1, 89) = true := by decide +kernel
theorem gFL9_1 : gchkF 9 (153, 5, 0, 118) = true := by decide +kernel
theorem gFL9_2 : gchkF 9 (308, 5, 1, 120) = true := by decide +kernel
theorem gFL9_3 : gchkF 9 (150, 5, 2, 122) = true := by decide +kernel
theorem gFL9_4 : gchkF 9 (143, 5, 3, 124) = true := by decide +kernel
theorem gFL9_5 : gchkF 9 (147, 5, 4, 126) = true := by decide +kernel
theorem gFL9_6 : gchkF 9 (287, 0, 0, 175) = true := by decide +kernel
theorem gFL9_7 : gchkF 9 (284, 0, 1, 177) = true := by decide +kernel
theorem gFL9_8 : gchkF 9 (106, 6, 0, 189) = true := by decide +kernel
theorem gFL9_9 : gchkF 9 (113, 6, 1, 191) = true := by decide +kernel
theorem gFL9_10 : gchkF 9 (122, 6, 2, 193) = true := by decide +kernel
theorem gFL9_11 : gchkF 9 (178, 8, 0, 209) = true := by decide +kernel
theorem gFL9_12 : gchkF 9 (181, 8, 1, 213) = true := by decide +kernel
theorem gFL9_13 : gchkF 9 (229, 3, 1, 227) = true := by decide +kernel
theorem gFL9_14 : gchkF 9 (218, 3, 2, 230) = true := by decide +kernel
theorem gFL9_15 : gchkF 9 (11, 9, 0, 238) = true := by decide +kernel
theorem gFL9_16 : gchkF 9 (17, 9, 1, 239) = true := by decide +kernel
theorem gFL9_17 : gchkF 9 (23, 9, 2, 240) = true := by decide +kernel
theorem gFL9_18 : gchkF 9 (30, 9, 3, 241) = true := by decide +kernel
theorem gFL9_19 : gchkF 9 (37, 9, 4, 242) = true := by decide +kernel
theorem gFL9_20 : gchkF 9 (44, 9, 5, 243) = true := by decide +kernel
theorem gFL9_21 : gchkF 9 (51, 9, 6, 244) = true := by decide +kernel
theorem gFL9_22 : gchkF 9 (58, 9, 7, 245) = true := by decide +kernel
theorem gFL9_23 : gchkF 9 (65, 9, 8, 246) = true := by decide +kernel
theorem gFL9_24 : gchkF 9 (69, 9, 9, 247) = true := by decide +kernel
theorem gFL9_25 : gchkF 9 (73, 9, 10, 248) = true := by decide +kernel
theorem gFL9_ok : ∀ e ∈ gFL9, gchkF 9 e = true := List.forall_mem_cons.mpr ⟨gFL9_0, List.forall_mem_cons.mpr ⟨gFL9_1, List.forall_mem_cons.mpr ⟨gFL9_2, List.forall_mem_cons.mpr ⟨gFL9_3, List.forall_mem_cons.mpr ⟨gFL9_4, List.forall_mem_cons.mpr ⟨gFL9_5, List.forall_mem_cons.mpr ⟨gFL9_6, List.forall_mem_cons.mpr ⟨gFL9_7, List.forall_mem_cons.mpr ⟨gFL9_8, List.forall_mem_cons.mpr ⟨gFL9_9, List.forall_mem_cons.mpr ⟨gFL9_10, List.forall_mem_cons.mpr ⟨gFL9_11, List.forall_mem_cons.mpr ⟨gFL9_12, List.forall_mem_cons.mpr ⟨gFL9_13, List.forall_mem_cons.mpr ⟨gFL9_14, List.forall_mem_cons.mpr ⟨gFL9_15, List.forall_mem_cons.mpr ⟨gFL9_16, List.forall_mem_cons.mpr ⟨gFL9_17, List.forall_mem_cons.mpr ⟨gFL9_18, List.forall_mem_cons.mpr ⟨gFL9_19, List.forall_mem_cons.mpr ⟨gFL9_20, List.forall_mem_cons.mpr ⟨gFL9_21, List.forall_mem_cons.mpr ⟨gFL9_22, List.forall_mem_cons.mpr ⟨gFL9_23, List.forall_mem_cons.mpr ⟨gFL9_24, List.forall_mem_cons.mpr ⟨gFL9_25, fun _ h => absurd h List.not_mem_nil⟩⟩⟩⟩⟩⟩⟩⟩⟩⟩⟩⟩⟩⟩⟩⟩⟩⟩⟩⟩⟩⟩⟩⟩⟩⟩
theorem gFL10_0 : gchkF 10 (44, 10, 0, 838) = true := by decide +kernel
theorem gFL10_1 : gchkF 10 (48, 10, 1, 839) = true := by decide +kernel
theorem gFL10_2 : gchkF 10 (7, 10, 2, 840) = true := by decide +kernel
theorem gFL10_3 : gchkF 10 (13, 10, 3, 841) = true := by decide +kernel
theorem gFL10_4 : gchkF 10 (16, 10, 4, 842) = true := by decide +kernel
theorem gFL10_5 : gchkF 10 (19, 10, 5, 843) = true := by decide +kernel
theorem gFL10_6 : gchkF 10 (22, 10, 6, 844) = true := by decide +kernel
theorem gFL10_7 : gchkF 10 (25, 10, 7, 845) = true := by decide +kernel
theorem gFL10_8 : gchkF 10 (29, 10, 8, 846) = true := by decide +kernel
theorem gFL10_9 : gchkF 10 (32, 10, 9, 847) = true := by decide +kernel
theorem gFL10_10 : gchkF 10 (112, 10, 10, 848) = true := by decide +kernel
theorem gFL10_11 : gchkF 10 (199, 10, 11, 849) = true := by decide +kernel
theorem gFL10_12 : gchkF 10 (117, 10, 12, 850) = true := by decide +kernel
theorem gFL10_13 : gchkF 10 (120, 10, 13, 851) = true := by decide +kernel
theorem gFL10_14 : gchkF 10 (129, 10, 14, 852) = true := by decide +kernel
theorem gFL10_15 : gchkF 10 (126, 10, 15, 853) = true := by decide +kernel
theorem gFL10_16 : gchkF 10 (138, 10, 16, 854) = true := by decide +kernel
theorem gFL10_17 : gchkF 10 (141, 10, 17, 855) = true := by decide +kernel
theorem gFL10_18 : gchkF 10 (144, 10, 18, 856) = true := by decide +kernel
theorem gFL10_19 : gchkF 10 (185, 10, 19, 857) = true := by decide +kernel
theorem gFL10_20 : gchkF 10 (173, 10, 20, 858) = true := by decide +kernel
theorem gFL10_21 : gchkF 10 (35, 10, 21, 859) = true := by decide +kernel
theorem gFL10_22 : gchkF 10 (38, 10, 22, 860) = true := by decide +kernel
theorem gFL10_23 : gchkF 10 (41, 10, 23, 861) = true := by decide +kernel
theorem gFL10_24 : gchkF 10 (248, 10, 24, 862) = true := by decide +kernel
theorem gFL10_ok : ∀ e ∈ gFL10, gchkF 10 e = true := List.forall_mem_cons.mpr ⟨gFL10_0, List.forall_mem_cons.mpr ⟨gFL10_1, List.forall_mem_cons.mpr ⟨gFL10_2, List.forall_mem_cons.mpr ⟨gFL10_3, List.forall_mem_cons.mpr ⟨gFL10_4, List.forall_mem_cons.mpr ⟨gFL10_5, List.forall_mem_cons.mpr ⟨gFL10_6, List.forall_mem_cons.mpr ⟨gFL10_7, List.forall_mem_cons.mpr ⟨gFL10_8, List.forall_mem_cons.mpr ⟨gFL10_9, List.forall_mem_cons.mpr ⟨gFL10_10, List.forall_mem_cons.mpr ⟨gFL10_11, List.forall_mem_cons.mpr ⟨gFL10_12, List.forall_mem_cons.mpr ⟨gFL10_13, List.forall_mem_cons.mpr ⟨gFL10_14, List.forall_mem_cons.mpr ⟨gFL10_15, List.forall_mem_cons.mpr ⟨gFL10_16, List.forall_mem_cons.mpr ⟨gFL10_17, List.forall_mem_cons.mpr ⟨gFL10_18, List.forall_mem_cons.mpr ⟨gFL10_19, List.forall_mem_cons.mpr ⟨gFL10_20, List.forall_mem_cons.mpr ⟨gFL10_21, List.forall_mem_cons.mpr ⟨gFL10_22, List.forall_mem_cons.mpr ⟨gFL10_23, List.forall_mem_cons.mpr ⟨gFL10_24, fun _ h => absurd h List.not_mem_nil⟩⟩⟩⟩⟩⟩⟩⟩⟩⟩⟩⟩⟩⟩⟩⟩⟩⟩⟩⟩⟩⟩⟩⟩⟩
theorem gFL11_ok : ∀ e ∈ gFL11, gchkF 11 e = true := fun _ h => absurd h List.not_mem_nil
theorem gFL12_ok : ∀ e ∈ gFL12, gchkF 12 e = true := fun _ h => absurd h List.not_mem_nil
theorem gFL13_ok : ∀ e ∈ gFL13, gchkF 13 e = true := fun _ h => absurd h List.not_mem_nil
theorem gFL14_ok : ∀ e ∈ gFL14, gchkF 14 e = true := fun _ h => absurd h List.not_mem_nil
theorem gFL15_ok : ∀ e ∈ gFL15, gchkF 15 e = true := fun _ h => absurd h List.not_mem_nil
theorem gFL16_ok : ∀ e ∈ gFL16, gchkF 16 e = true := fun _ h => absurd h List.not_mem_nil
theorem gFL17_ok : ∀ e ∈ gFL17, gchkF 17 e = true := fun _ h => absurd h List.not_mem_nil
theorem gFL18_ok : ∀ e ∈ gFL18, gchkF 18 e = true := fun _ h => absurd h List.not_mem_nil
theorem gFL19_ok : ∀ e ∈ gFL19, gchkF 19 e = true := fun _ h => absurd h List.not_mem_nil
theorem gFL_ok : ∀ (o : Nat), ∀ e ∈ gFL o, gchkF o e = true
  | 0 => gFL0_ok
  | 1 => gFL1_ok
  | 2 => gFL2_ok
  | 3 => gFL3_ok
  | 4 => gFL4_ok
  | 5 => gFL5_ok
  | 6 => gFL6_ok
  | 7 => gFL7_ok
  | 8 => gFL8_ok
  | 9 => gFL9_ok
  | 10 => gFL10_ok
  | 11 => gFL11_ok
  | 12 => gFL12_ok
  | 13 => gFL13_ok
  | 14 => gFL14_ok
  | 15 => gFL15_ok
  | 16 => gFL16_ok
  | 17 => gFL17_ok
  | 18 => gFL18_ok
  | 19 => gFL19_ok
  | _ + 20 => fun _ h => absurd h List.not_mem_nil
theorem gCL0_0 : gchkC 0 (58, .inl 65535, 763) = true := by decide +kernel
theorem gCL0_ok : ∀ e ∈ gCL0, gchkC 0 e = true := List.forall_mem_cons.mpr ⟨gCL0_0, fun _ h => absurd h List.not_mem_nil⟩
theorem gCL1_0 : gchkC 1 (61, .inr (.inl 1000000), 524) = true := by decide +kernel
theorem gCL1_1 : gchkC 1 (53, .inr (.inl 16), 540) = true := by decide +kernel
theorem gCL1_ok : ∀ e ∈ gCL1, gchkC 1 e = true := List.forall_mem_cons.mpr ⟨gCL1_0, List.forall_mem_cons.mpr ⟨gCL1_1, fun _ h => absurd h List.not_mem_nil⟩⟩
theorem gCL2_ok : ∀ e ∈ gCL2, gchkC 2 e = true := fun _ h => absurd h List.not_mem_nil
theorem gCL3_0 : gchkC 3 (40, .inr (.inl 255), 581) = true := by decide +kernel
theorem gCL3_1 : gchkC 3 (45, .inl (-1000000), 601) = true := by decide +kernel
theorem gCL3_ok : ∀ e ∈ gCL3, gchkC 3 e = true := List.forall_mem_cons.mpr ⟨gCL3_0, List.forall_mem_cons.mpr ⟨gCL3_1, fun _ h => absurd h List.not_mem_nil⟩⟩
theorem gCL4_0 : gchkC 4 (31, .inl (-1000000), 672) = true := by decide +kernel
theorem gCL4_ok : ∀ e ∈ gCL4, gchkC 4 e = true := List.forall_mem_cons.mpr ⟨gCL4_0, fun _ h => absurd h List.not_mem_nil⟩
theorem gCL5_ok : ∀ e ∈ gCL5, gchkC 5 e = true := fun _ h => absurd h List.not_mem_nil
theorem gCL6_ok : ∀ e ∈ gCL6, gchkC 6 e = true := fun _ h => absurd h List.not_mem_nil
theorem gCL7_ok : ∀ e ∈ gCL7, gchkC 7 e = true := fun _ h => absurd h List.not_mem_nil
theorem gCL8_ok : ∀ e ∈ gCL8, gchkC 8 e = true := fun _ h => absurd h List.not_mem_nil
theorem gCL9_0 : gchkC 9 (87, .inl (-1000001), 282) = true := by decide +kernel
theorem gCL9_1 : gchkC 9 (299, .inl (-1000010), 287) = true := by decide +kernel
theorem gCL9_2 : gchkC 9 (135, .inl (-1000003), 338) = true := by decide +kernel
theorem gCL9_3 : gchkC 9 (146, .inl (-1000100), 461) = true := by decide +kernel
theorem gCL9_4 : gchkC 9 (169, .inl (-1000002), 541) = true := by decide +kernel
theorem gCL9_5 : gchkC 9 (184, .inr (.inl (-1000001)), 554) = true := by decide +kernel
theorem gCL9_6 : gchkC 9 (186, .inl (-1000000), 555) = true := by decide +kernel
theorem gCL9_7 : gchkC 9 (201, .inl 100000, 572) = true := by decide +kernel
theorem gCL9_8 : gchkC 9 (306, .inr (.inl 2), 626) = true := by decide +kernel
theorem gCL9_9 : gchkC 9 (248, .inl 65536, 681) = true := by decide +kernel
theorem gCL9_10 : gchkC 9 (252, .inl 65535, 686) = true := by decide +kernel
theorem gCL9_ok : ∀ e ∈ gCL9, gchkC 9 e = true := List.forall_mem_cons.mpr ⟨gCL9_0, List.forall_mem_cons.mpr ⟨gCL9_1, List.forall_mem_cons.mpr ⟨gCL9_2, List.forall_mem_cons.mpr ⟨gCL9_3, List.forall_mem_cons.mpr ⟨gCL9_4, List.forall_mem_cons.mpr ⟨gCL9_5, List.forall_mem_cons.mpr ⟨gCL9_6, List.forall_mem_cons.mpr ⟨gCL9_7, List.forall_mem_cons.mpr ⟨gCL9_8, List.forall_mem_cons.mpr ⟨gCL9_9, List.forall_mem_cons.mpr ⟨gCL9_10, fun _ h => absurd h List.not_mem_nil⟩⟩⟩⟩⟩⟩⟩⟩⟩⟩⟩
theorem gCL10_0 : gchkC 10 (52, .inr (.inl 7), 921) = true := by decide +kernel
theorem gCL10_1 : gchkC 10 (62, .inr (.inl 2), 925) = true := by decide +kernel
theorem gCL10_2 : gchkC 10 (64, .inl (-1000001), 926) = true := by decide +kernel
theorem gCL10_3 : gchkC 10 (51, .inl (-1000010), 931) = true := by decide +kernel
theorem gCL10_4 : gchkC 10 (89, .inr (.inl 16), 961) = true := by decide +kernel
theorem gCL10_5 : gchkC 10 (91, .inl (-1000002), 962) = true := by decide +kernel
theorem gCL10_6 : gchkC 10 (71, .inr (.inl (-1000000)), 967) = true := by decide +kernel
theorem gCL10_7 : gchkC 10 (73, .inr (.inl 1000000), 968) = true := by decide +kernel
theorem gCL10_8 : gchkC 10 (95, .inl (-1000003), 969) = true := by decide +kernel
theorem gCL10_9 : gchkC 10 (69, .inr (.inl 15), 985) = true := by decide +kernel
theorem gCL10_10 : gchkC 10 (103, .inl (-1000000), 990) = true := by decide +kernel
theorem gCL10_11 : gchkC 10 (104, .inr (.inl (-1000001)), 991) = true := by decide +kernel
theorem gCL10_12 : gchkC 10 (110, .inr (.inl 8), 1004) = true := by decide +kernel
theorem gCL10_13 : gchkC 10 (115, .inr (.inl 255), 1005) = true := by decide +kernel
theorem gCL10_14 : gchkC 10 (161, .inr (.inl 482905517684), 1036) = true := by decide +kernel
theorem gCL10_15 : gchkC 10 (163, .inr (.inl 482854661733), 1037) = true := by decide +kernel
theorem gCL10_16 : gchkC 10 (165, .inr (.inl 6580589), 1038) = true := by decide +kernel
theorem gCL10_17 : gchkC 10 (167, .inr (.inl 1953854062), 1039) = true := by decide +kernel
theorem gCL10_18 : gchkC 10 (169, .inr (.inl 6382692), 1040) = true := by decide +kernel
theorem gCL10_19 : gchkC 10 (171, .inr (.inl 7823737), 1041) = true := by decide +kernel
theorem gCL10_20 : gchkC 10 (180, .inr (.inl 2003398757), 1042) = true := by decide +kernel
theorem gCL10_21 : gchkC 10 (202, .inl (-1000100), 1063) = true := by decide +kernel
theorem gCL10_22 : gchkC 10 (203, .inr (.inl 5), 1075) = true := by decide +kernel
theorem gCL10_23 : gchkC 10 (208, .inr (.inl 100000), 1076) = true := by decide +kernel
theorem gCL10_24 : gchkC 10 (219, .inr (.inl 3), 1104) = true := by decide +kernel
theorem gCL10_25 : gchkC 10 (232, .inr (.inl 65535), 1132) = true := by decide +kernel
theorem gCL10_26 : gchkC 10 (238, .inl 65536, 1137) = true := by decide +kernel
theorem gCL10_27 : gchkC 10 (242, .inr (.inl 4), 1154) = true := by decide +kernel
theorem gCL10_ok : ∀ e ∈ gCL10, gchkC 10 e = true := List.forall_mem_cons.mpr ⟨gCL10_0, List.forall_mem_cons.mpr ⟨gCL10_1, List.forall_mem_cons.mpr ⟨gCL10_2, List.forall_mem_cons.mpr ⟨gCL10_3, List.forall_mem_cons.mpr ⟨gCL10_4, List.forall_mem_cons.mpr ⟨gCL10_5, List.forall_mem_cons.mpr ⟨gCL10_6, List.forall_mem_cons.mpr ⟨gCL10_7, List.forall_mem_cons.mpr ⟨gCL10_8, List.forall_mem_cons.mpr ⟨gCL10_9, List.forall_mem_cons.mpr ⟨gCL10_10, List.forall_mem_cons.mpr ⟨gCL10_11, List.forall_mem_cons.mpr ⟨gCL10_12, List.forall_mem_cons.mpr ⟨gCL10_13, List.forall_mem_cons.mpr ⟨gCL10_14, List.forall_mem_cons.mpr ⟨gCL10_15, List.forall_mem_cons.mpr ⟨gCL10_16, List.forall_mem_cons.mpr ⟨gCL10_17, List.forall_mem_cons.mpr ⟨gCL10_18, List.forall_mem_cons.mpr ⟨gCL10_19, List.forall_mem_cons.mpr ⟨gCL10_20, List.forall_mem_cons.mpr ⟨gCL10_21, List.forall_mem_cons.mpr ⟨gCL10_22, List.forall_mem_cons.mpr ⟨gCL10_23, List.forall_mem_cons.mpr ⟨gCL10_24, List.forall_mem_cons.mpr ⟨gCL10_25, List.forall_mem_cons.mpr ⟨gCL10_26, List.forall_mem_cons.mpr ⟨gCL10_27, fun _ h => absurd h List.not_mem_nil⟩⟩⟩⟩⟩⟩⟩⟩⟩⟩⟩⟩⟩⟩⟩⟩⟩⟩⟩⟩⟩⟩⟩⟩⟩⟩⟩⟩
theorem gCL11_0 : gchkC 11 (32, .inr (.inl 4294967295), 1190) = true := by decide +kernel
theorem gCL11_ok : ∀ e ∈ gCL11, gchkC 11 e = true := List.forall_mem_cons.mpr ⟨gCL11_0, fun _ h => absurd h List.not_mem_nil⟩
theorem gCL12_0 : gchkC 12 (265, .inl 1431655765, 653) = true := by decide +kernel
theorem gCL12_1 : gchkC 12 (266, .inl 858993459, 654) = true := by decide +kernel
theorem gCL12_2 : gchkC 12 (267, .inl 252645135, 655) = true := by decide +kernel
theorem gCL12_ok : ∀ e ∈ gCL12, gchkC 12 e = true := List.forall_mem_cons.mpr ⟨gCL12_0, List.forall_mem_cons.mpr ⟨gCL12_1, List.forall_mem_cons.mpr ⟨gCL12_2, fun _ h => absurd h List.not_mem_nil⟩⟩⟩
theorem gCL13_ok : ∀ e ∈ gCL13, gchkC 13 e = true := fun _ h => absurd h List.not_mem_nil
theorem gCL14_ok : ∀ e ∈ gCL14, gchkC 14 e = true := fun _ h => absurd h List.not_mem_nil
theorem gCL15_ok : ∀ e ∈ gCL15, gchkC 15 e = true := fun _ h => absurd h List.not_mem_nil
theorem gCL16_ok : ∀ e ∈ gCL16, gchkC 16 e = true := fun _ h => absurd h List.not_mem_nil
theorem gCL17_ok : ∀ e ∈ gCL17, gchkC 17 e = true := fun _ h => absurd h List.not_mem_nil
theorem gCL18_ok : ∀ e ∈ gCL18, gchkC 18 e = true := fun _ h => absurd h List.not_mem_nil
theorem gCL19_ok : ∀ e ∈ gCL19, gchkC 19 e = true := fun _ h => absurd h List.not_mem_nil
theorem gCL_ok : ∀ (o : Nat), ∀ e ∈ gCL o, gchkC o e = true
  | 0 => gCL0_ok
  | 1 => gCL1_ok
  | 2 => gCL2_ok
  | 3 => gCL3_ok
  | 4 => gCL4_ok
  | 5 => gCL5_ok
  | 6 => gCL6_ok
  | 7 => gCL7_ok
  | 8 => gCL8_ok
  | 9 => gCL9_ok
  | 10 => gCL10_ok
  | 11 => gCL11_ok
  | 12 => gCL12_ok
  | 13 => gCL13_ok
  | 14 => gCL14_ok
  | 15 => gCL15_ok
  | 16 => gCL16_ok
  | 17 => gCL17_ok
  | 18 => gCL18_ok
  | 19 => gCL19_ok
  | _ + 20 => fun _ h => absurd h List.not_mem_nil
theorem gIL0_0 : gchkI 0 (19, 103, 1, myX3_kindTold, [750, 717, 718, 719, 43]) = true := by decide +kernel
theorem gIL0_1 : gchkI 0 (25, 100, 2, myX0_sizeOfClear, [751, 752, 753, 754, 40]) = true := by decide +kernel
theorem gIL0_2 : gchkI 0 (54, 100, 2, myX0_begin, [755, 756, 757, 758, 40]) = true := by decide +kernel
theorem gIL0_3 : gchkI 0 (39, 100, 2, myX0_sizeLent, [759, 760, 761, 762, 40]) = true := by decide +kernel
theorem gIL0_4 : gchkI 0 (59, 103, 2, myX3_totalWithin, [764, 683, 684, 685, 43]) = true := by decide +kernel
theorem gIL0_5 : gchkI 0 (29, 100, 2, myX0_sizeOfFully, [765, 766, 767, 768, 40]) = true := by decide +kernel
theorem gIL0_6 : gchkI 0 (32, 100, 3, myX0_sizeOfTorn, [769, 770, 771, 772, 40]) = true := by decide +kernel
theorem gIL0_7 : gchkI 0 (66, 100, 3, myX0_markAsked, [773, 774, 775, 776, 40]) = true := by decide +kernel
theorem gIL0_8 : gchkI 0 (42, 100, 2, myX0_markOfClear, [777, 778, 779, 780, 40]) = true := by decide +kernel
theorem gIL0_9 : gchkI 0 (51, 100, 2, myX0_markLent, [781, 782, 783, 784, 40]) = true := by decide +kernel
theorem gIL0_10 : gchkI 0 (69, 103, 1, myX3_greatest, [785, 786, 787, 788, 43]) = true := by decide +kernel
theorem gIL0_11 : gchkI 0 (45, 100, 3, myX0_markOfFully, [789, 790, 791, 792, 40]) = true := by decide +kernel
theorem gIL0_12 : gchkI 0 (72, 100, 3, myX0_sizeAsked, [793, 747, 748, 749, 40]) = true := by decide +kernel
theorem gIL0_13 : gchkI 0 (48, 100, 2, myX0_markOfTorn, [794, 795, 796, 797, 40]) = true := by decide +kernel
theorem gIL0_14 : gchkI 0 (75, 103, 1, myX3_lostOnes, [798, 721, 722, 723, 43]) = true := by decide +kernel
theorem gIL0_15 : gchkI 0 (36, 100, 3, myX0_sizeOfBlind, [799, 800, 801, 802, 40]) = true := by decide +kernel
theorem gIL0_ok : ∀ e ∈ gIL0, gchkI 0 e = true := List.forall_mem_cons.mpr ⟨gIL0_0, List.forall_mem_cons.mpr ⟨gIL0_1, List.forall_mem_cons.mpr ⟨gIL0_2, List.forall_mem_cons.mpr ⟨gIL0_3, List.forall_mem_cons.mpr ⟨gIL0_4, List.forall_mem_cons.mpr ⟨gIL0_5, List.forall_mem_cons.mpr ⟨gIL0_6, List.forall_mem_cons.mpr ⟨gIL0_7, List.forall_mem_cons.mpr ⟨gIL0_8, List.forall_mem_cons.mpr ⟨gIL0_9, List.forall_mem_cons.mpr ⟨gIL0_10, List.forall_mem_cons.mpr ⟨gIL0_11, List.forall_mem_cons.mpr ⟨gIL0_12, List.forall_mem_cons.mpr ⟨gIL0_13, List.forall_mem_cons.mpr ⟨gIL0_14, List.forall_mem_cons.mpr ⟨gIL0_15, fun _ h => absurd h List.not_mem_nil⟩⟩⟩⟩⟩⟩⟩⟩⟩⟩⟩⟩⟩⟩⟩⟩
theorem gIL1_0 : gchkI 1 (31, 101, 4, myX1_put, [470, 471, 472, 473, 35]) = true := by decide +kernel
theorem gIL1_1 : gchkI 1 (35, 2, 3, myX9_turnedRe, [482, 483, 0, 484, 34]) = true := by decide +kernel
theorem gIL1_2 : gchkI 1 (39, 2, 3, myX9_turnedIm, [485, 486, 0, 487, 34]) = true := by decide +kernel
theorem gIL1_3 : gchkI 1 (42, 2, 3, myX9_lean, [492, 493, 0, 494, 34]) = true := by decide +kernel
theorem gIL1_4 : gchkI 1 (46, 101, 5, myX1_addTurned, [495, 479, 480, 481, 35]) = true := by decide +kernel
theorem gIL1_5 : gchkI 1 (50, 101, 1, myX1_darken, [509, 510, 511, 512, 35]) = true := by decide +kernel
theorem gIL1_6 : gchkI 1 (18, 0, 2, myJ7_fill_d0a16, [513, 514, 0, 515, 45]) = true := by decide +kernel
theorem gIL1_7 : gchkI 1 (55, 0, 1, myJ9_abs_067f4, [521, 522, 0, 523, 51]) = true := by decide +kernel
theorem gIL1_ok : ∀ e ∈ gIL1, gchkI 1 e = true := List.forall_mem_cons.mpr ⟨gIL1_0, List.forall_mem_cons.mpr ⟨gIL1_1, List.forall_mem_cons.mpr ⟨gIL1_2, List.forall_mem_cons.mpr ⟨gIL1_3, List.forall_mem_cons.mpr ⟨gIL1_4, List.forall_mem_cons.mpr ⟨gIL1_5, List.forall_mem_cons.mpr ⟨gIL1_6, List.forall_mem_cons.mpr ⟨gIL1_7, fun _ h => absurd h List.not_mem_nil⟩⟩⟩⟩⟩⟩⟩⟩
theorem gIL2_0 : gchkI 2 (19, 102, 4, myX2_sumUp, [691, 692, 693, 694, 39]) = true := by decide +kernel
theorem gIL2_1 : gchkI 2 (28, 102, 4, myX2_merge, [695, 696, 697, 698, 39]) = true := by decide +kernel
theorem gIL2_ok : ∀ e ∈ gIL2, gchkI 2 e = true := List.forall_mem_cons.mpr ⟨gIL2_0, List.forall_mem_cons.mpr ⟨gIL2_1, fun _ h => absurd h List.not_mem_nil⟩⟩
theorem gIL3_0 : gchkI 3 (22, 0, 2, myJ9_max_7cf53, [577, 578, 0, 579, 51]) = true := by decide +kernel
theorem gIL3_1 : gchkI 3 (36, 2, 2, myX9_brightOf, [580, 557, 0, 558, 34]) = true := by decide +kernel
theorem gIL3_2 : gchkI 3 (42, 0, 2, myJ9_min_f86c9, [582, 583, 0, 584, 51]) = true := by decide +kernel
theorem gIL3_3 : gchkI 3 (52, 103, 1, myX3_lostOnes, [720, 721, 722, 723, 43]) = true := by decide +kernel
theorem gIL3_4 : gchkI 3 (46, 0, 1, myJ6_bitCount_0f7a4, [724, 651, 0, 652, 52]) = true := by decide +kernel
theorem gIL3_5 : gchkI 3 (56, 103, 1, myX3_whiteOnes, [725, 586, 587, 588, 43]) = true := by decide +kernel
theorem gIL3_6 : gchkI 3 (59, 103, 1, myX3_kindTold, [734, 717, 718, 719, 43]) = true := by decide +kernel
theorem gIL3_7 : gchkI 3 (62, 0, 1, myX3_kindAbove, [735, 736, 0, 737, 43]) = true := by decide +kernel
theorem gIL3_ok : ∀ e ∈ gIL3, gchkI 3 e = true := List.forall_mem_cons.mpr ⟨gIL3_0, List.forall_mem_cons.mpr ⟨gIL3_1, List.forall_mem_cons.mpr ⟨gIL3_2, List.forall_mem_cons.mpr ⟨gIL3_3, List.forall_mem_cons.mpr ⟨gIL3_4, List.forall_mem_cons.mpr ⟨gIL3_5, List.forall_mem_cons.mpr ⟨gIL3_6, List.forall_mem_cons.mpr ⟨gIL3_7, fun _ h => absurd h List.not_mem_nil⟩⟩⟩⟩⟩⟩⟩⟩
theorem gIL4_0 : gchkI 4 (19, 0, 1, myX4_choices, [647, 648, 0, 649, 38]) = true := by decide +kernel
theorem gIL4_1 : gchkI 4 (32, 0, 1, myJ6_bitCount_0f7a4, [650, 651, 0, 652, 52]) = true := by decide +kernel
theorem gIL4_2 : gchkI 4 (23, 104, 3, myX4_spread, [656, 657, 658, 659, 38]) = true := by decide +kernel
theorem gIL4_3 : gchkI 4 (27, 104, 3, myX4_sends, [660, 661, 662, 663, 38]) = true := by decide +kernel
theorem gIL4_4 : gchkI 4 (37, 104, 2, myX4_farBright, [664, 665, 666, 667, 38]) = true := by decide +kernel
theorem gIL4_ok : ∀ e ∈ gIL4, gchkI 4 e = true := List.forall_mem_cons.mpr ⟨gIL4_0, List.forall_mem_cons.mpr ⟨gIL4_1, List.forall_mem_cons.mpr ⟨gIL4_2, List.forall_mem_cons.mpr ⟨gIL4_3, List.forall_mem_cons.mpr ⟨gIL4_4, fun _ h => absurd h List.not_mem_nil⟩⟩⟩⟩⟩
theorem gIL5_0 : gchkI 5 (30, 107, 1, myX7_rewind, [347, 348, 349, 350, 36]) = true := by decide +kernel
theorem gIL5_1 : gchkI 5 (33, 107, 1, myX7_next, [351, 352, 353, 354, 36]) = true := by decide +kernel
theorem gIL5_2 : gchkI 5 (39, 105, 2, myX5_readAct, [371, 372, 373, 374, 37]) = true := by decide +kernel
theorem gIL5_3 : gchkI 5 (43, 0, 1, myX5_verbOf, [375, 376, 0, 377, 37]) = true := by decide +kernel
theorem gIL5_4 : gchkI 5 (61, 0, 1, myX5_wordOf, [378, 379, 0, 380, 37]) = true := by decide +kernel
theorem gIL5_5 : gchkI 5 (65, 107, 2, myX7_spells, [388, 389, 390, 391, 36]) = true := by decide +kernel
theorem gIL5_6 : gchkI 5 (47, 105, 3, myX5_faulty, [440, 441, 442, 443, 37]) = true := by decide +kernel
theorem gIL5_7 : gchkI 5 (51, 0, 1, myX5_mostOf, [444, 445, 0, 446, 37]) = true := by decide +kernel
theorem gIL5_ok : ∀ e ∈ gIL5, gchkI 5 e = true := List.forall_mem_cons.mpr ⟨gIL5_0, List.forall_mem_cons.mpr ⟨gIL5_1, List.forall_mem_cons.mpr ⟨gIL5_2, List.forall_mem_cons.mpr ⟨gIL5_3, List.forall_mem_cons.mpr ⟨gIL5_4, List.forall_mem_cons.mpr ⟨gIL5_5, List.forall_mem_cons.mpr ⟨gIL5_6, List.forall_mem_cons.mpr ⟨gIL5_7, fun _ h => absurd h List.not_mem_nil⟩⟩⟩⟩⟩⟩⟩⟩
theorem gIL6_0 : gchkI 6 (22, 0, 2, myJ7_fill_53178, [292, 293, 0, 294, 45]) = true := by decide +kernel
theorem gIL6_ok : ∀ e ∈ gIL6, gchkI 6 e = true := List.forall_mem_cons.mpr ⟨gIL6_0, fun _ h => absurd h List.not_mem_nil⟩
theorem gIL7_0 : gchkI 7 (29, 107, 2, myX7_hasLetter, [355, 356, 357, 358, 36]) = true := by decide +kernel
theorem gIL7_1 : gchkI 7 (33, 107, 1, myX7_takeName, [359, 360, 361, 362, 36]) = true := by decide +kernel
theorem gIL7_2 : gchkI 7 (36, 107, 2, myX7_hasFigure, [363, 364, 365, 366, 36]) = true := by decide +kernel
theorem gIL7_3 : gchkI 7 (39, 107, 1, myX7_takeNumber, [367, 368, 369, 370, 36]) = true := by decide +kernel
theorem gIL7_4 : gchkI 7 (42, 114, 1, myJ0_length_8abf5, [392, 393, 394, 395, 47]) = true := by decide +kernel
theorem gIL7_5 : gchkI 7 (47, 114, 2, myJ0_charAt_5068e, [402, 403, 404, 405, 47]) = true := by decide +kernel
theorem gIL7_ok : ∀ e ∈ gIL7, gchkI 7 e = true := List.forall_mem_cons.mpr ⟨gIL7_0, List.forall_mem_cons.mpr ⟨gIL7_1, List.forall_mem_cons.mpr ⟨gIL7_2, List.forall_mem_cons.mpr ⟨gIL7_3, List.forall_mem_cons.mpr ⟨gIL7_4, List.forall_mem_cons.mpr ⟨gIL7_5, fun _ h => absurd h List.not_mem_nil⟩⟩⟩⟩⟩⟩
theorem gIL8_ok : ∀ e ∈ gIL8, gchkI 8 e = true := fun _ h => absurd h List.not_mem_nil
theorem gIL9_0 : gchkI 9 (79, 0, 1, myX9_isSheet, [276, 277, 0, 278, 34]) = true := by decide +kernel
theorem gIL9_1 : gchkI 9 (83, 0, 2, myX9_below, [279, 280, 0, 281, 34]) = true := by decide +kernel
theorem gIL9_2 : gchkI 9 (88, 109, 2, myX9_found, [283, 285, 0, 286, 34]) = true := by decide +kernel
theorem gIL9_3 : gchkI 9 (92, 106, 3, myX6_become, [288, 289, 290, 291, 41]) = true := by decide +kernel
theorem gIL9_4 : gchkI 9 (96, 109, 2, myX9_fine, [295, 297, 1, 298, 34]) = true := by decide +kernel
theorem gIL9_5 : gchkI 9 (99, 106, 1, myX6_isMissing, [303, 304, 305, 306, 41]) = true := by decide +kernel
theorem gIL9_6 : gchkI 9 (103, 106, 3, myX6_reaches, [307, 308, 309, 310, 41]) = true := by decide +kernel
theorem gIL9_7 : gchkI 9 (110, 106, 2, myX6_cut, [311, 312, 313, 314, 41]) = true := by decide +kernel
theorem gIL9_8 : gchkI 9 (125, 106, 1, myX6_goMissing, [326, 327, 328, 329, 41]) = true := by decide +kernel
theorem gIL9_9 : gchkI 9 (128, 107, 3, myX7_append, [334, 335, 336, 337, 36]) = true := by decide +kernel
theorem gIL9_10 : gchkI 9 (136, 105, 2, myX5_readAll, [343, 344, 345, 346, 37]) = true := by decide +kernel
theorem gIL9_11 : gchkI 9 (140, 107, 1, myX7_empty, [457, 458, 459, 460, 36]) = true := by decide +kernel
theorem gIL9_12 : gchkI 9 (156, 109, 3, myX9_perform, [462, 464, 2, 465, 34]) = true := by decide +kernel
theorem gIL9_13 : gchkI 9 (311, 101, 2, myX1_start, [466, 467, 468, 469, 35]) = true := by decide +kernel
theorem gIL9_14 : gchkI 9 (315, 109, 2, myX9_placeTold, [474, 476, 3, 477, 34]) = true := by decide +kernel
theorem gIL9_15 : gchkI 9 (318, 101, 5, myX1_addTurned, [478, 479, 480, 481, 35]) = true := by decide +kernel
theorem gIL9_16 : gchkI 9 (322, 101, 5, myX1_addPlane, [488, 489, 490, 491, 35]) = true := by decide +kernel
theorem gIL9_17 : gchkI 9 (174, 101, 4, myX1_put, [496, 471, 472, 473, 35]) = true := by decide +kernel
theorem gIL9_18 : gchkI 9 (326, 101, 3, myX1_turn, [497, 498, 499, 500, 35]) = true := by decide +kernel
theorem gIL9_19 : gchkI 9 (329, 101, 2, myX1_addWave, [501, 502, 503, 504, 35]) = true := by decide +kernel
theorem gIL9_20 : gchkI 9 (162, 101, 3, myX1_sendOn, [505, 506, 507, 508, 35]) = true := by decide +kernel
theorem gIL9_21 : gchkI 9 (332, 101, 1, myX1_darken, [516, 510, 511, 512, 35]) = true := by decide +kernel
theorem gIL9_22 : gchkI 9 (170, 101, 2, myX1_settle, [517, 518, 519, 520, 35]) = true := by decide +kernel
theorem gIL9_23 : gchkI 9 (159, 0, 1, myX9_isWave, [533, 534, 0, 535, 34]) = true := by decide +kernel
theorem gIL9_24 : gchkI 9 (166, 101, 1, myX1_shareBySixteen, [536, 537, 538, 539, 35]) = true := by decide +kernel
theorem gIL9_25 : gchkI 9 (187, 0, 2, myX9_brightOf, [556, 557, 0, 558, 34]) = true := by decide +kernel
theorem gIL9_26 : gchkI 9 (191, 0, 3, myX9_turnedRe, [563, 483, 0, 484, 34]) = true := by decide +kernel
theorem gIL9_27 : gchkI 9 (195, 0, 3, myX9_turnedIm, [564, 486, 0, 487, 34]) = true := by decide +kernel
theorem gIL9_28 : gchkI 9 (198, 0, 1, myX9_isPlate, [569, 570, 0, 571, 34]) = true := by decide +kernel
theorem gIL9_29 : gchkI 9 (202, 103, 4, myX3_keepFringes, [573, 574, 575, 576, 43]) = true := by decide +kernel
theorem gIL9_30 : gchkI 9 (206, 103, 1, myX3_whiteOnes, [585, 586, 587, 588, 43]) = true := by decide +kernel
theorem gIL9_31 : gchkI 9 (210, 103, 1, myX3_isMissing, [593, 594, 595, 596, 43]) = true := by decide +kernel
theorem gIL9_32 : gchkI 9 (211, 103, 2, myX3_told, [597, 598, 599, 600, 43]) = true := by decide +kernel
theorem gIL9_33 : gchkI 9 (214, 103, 2, myX3_loseGrain, [602, 603, 604, 605, 43]) = true := by decide +kernel
theorem gIL9_34 : gchkI 9 (221, 103, 2, myX3_weight, [614, 615, 616, 617, 43]) = true := by decide +kernel
theorem gIL9_35 : gchkI 9 (225, 109, 5, myX9_sendPart, [622, 624, 4, 625, 34]) = true := by decide +kernel
theorem gIL9_36 : gchkI 9 (232, 0, 1, myJ9_abs_067f4, [635, 522, 0, 523, 51]) = true := by decide +kernel
theorem gIL9_37 : gchkI 9 (238, 0, 1, myJ9_abs_0f7a4, [636, 637, 0, 638, 51]) = true := by decide +kernel
theorem gIL9_38 : gchkI 9 (240, 104, 5, myX4_pick, [643, 644, 645, 646, 38]) = true := by decide +kernel
theorem gIL9_39 : gchkI 9 (244, 104, 5, myX4_howMany, [673, 674, 675, 676, 38]) = true := by decide +kernel
theorem gIL9_40 : gchkI 9 (249, 103, 2, myX3_totalWithin, [682, 683, 684, 685, 43]) = true := by decide +kernel
theorem gIL9_41 : gchkI 9 (253, 102, 3, myX2_howManyReach, [687, 688, 689, 690, 39]) = true := by decide +kernel
theorem gIL9_42 : gchkI 9 (257, 0, 3, myX9_placesTurned, [704, 705, 0, 706, 34]) = true := by decide +kernel
theorem gIL9_43 : gchkI 9 (303, 0, 3, myX9_lean, [707, 493, 0, 494, 34]) = true := by decide +kernel
theorem gIL9_44 : gchkI 9 (261, 0, 1, myJ6_bitCount_0f7a4, [708, 651, 0, 652, 52]) = true := by decide +kernel
theorem gIL9_45 : gchkI 9 (266, 0, 1, myX9_square, [709, 710, 0, 711, 34]) = true := by decide +kernel
theorem gIL9_46 : gchkI 9 (269, 103, 1, myX3_kindTold, [716, 717, 718, 719, 43]) = true := by decide +kernel
theorem gIL9_47 : gchkI 9 (272, 103, 2, myX3_isOf, [730, 731, 732, 733, 43]) = true := by decide +kernel
theorem gIL9_48 : gchkI 9 (275, 100, 1, myX0_forget, [742, 743, 744, 745, 40]) = true := by decide +kernel
theorem gIL9_49 : gchkI 9 (278, 100, 3, myX0_sizeAsked, [746, 747, 748, 749, 40]) = true := by decide +kernel
theorem gIL9_50 : gchkI 9 (281, 100, 3, myX0_markAsked, [803, 774, 775, 776, 40]) = true := by decide +kernel
theorem gIL9_51 : gchkI 9 (290, 109, 1, myX9_sheetsThere, [812, 814, 5, 815, 34]) = true := by decide +kernel
theorem gIL9_52 : gchkI 9 (293, 109, 1, myX9_wavesLit, [816, 818, 6, 819, 34]) = true := by decide +kernel
theorem gIL9_53 : gchkI 9 (300, 108, 1, myX8_isLit, [820, 821, 822, 823, 42]) = true := by decide +kernel
theorem gIL9_54 : gchkI 9 (296, 109, 2, myX9_platesOf, [824, 826, 7, 827, 34]) = true := by decide +kernel
theorem gIL9_ok : ∀ e ∈ gIL9, gchkI 9 e = true := List.forall_mem_cons.mpr ⟨gIL9_0, List.forall_mem_cons.mpr ⟨gIL9_1, List.forall_mem_cons.mpr ⟨gIL9_2, List.forall_mem_cons.mpr ⟨gIL9_3, List.forall_mem_cons.mpr ⟨gIL9_4, List.forall_mem_cons.mpr ⟨gIL9_5, List.forall_mem_cons.mpr ⟨gIL9_6, List.forall_mem_cons.mpr ⟨gIL9_7, List.forall_mem_cons.mpr ⟨gIL9_8, List.forall_mem_cons.mpr ⟨gIL9_9, List.forall_mem_cons.mpr ⟨gIL9_10, List.forall_mem_cons.mpr ⟨gIL9_11, List.forall_mem_cons.mpr ⟨gIL9_12, List.forall_mem_cons.mpr ⟨gIL9_13, List.forall_mem_cons.mpr ⟨gIL9_14, List.forall_mem_cons.mpr ⟨gIL9_15, List.forall_mem_cons.mpr ⟨gIL9_16, List.forall_mem_cons.mpr ⟨gIL9_17, List.forall_mem_cons.mpr ⟨gIL9_18, List.forall_mem_cons.mpr ⟨gIL9_19, List.forall_mem_cons.mpr ⟨gIL9_20, List.forall_mem_cons.mpr ⟨gIL9_21, List.forall_mem_cons.mpr ⟨gIL9_22, List.forall_mem_cons.mpr ⟨gIL9_23, List.forall_mem_cons.mpr ⟨gIL9_24, List.forall_mem_cons.mpr ⟨gIL9_25, List.forall_mem_cons.mpr ⟨gIL9_26, List.forall_mem_cons.mpr ⟨gIL9_27, List.forall_mem_cons.mpr ⟨gIL9_28, List.forall_mem_cons.mpr ⟨gIL9_29, List.forall_mem_cons.mpr ⟨gIL9_30, List.forall_mem_cons.mpr ⟨gIL9_31, List.forall_mem_cons.mpr ⟨gIL9_32, List.forall_mem_cons.mpr ⟨gIL9_33, List.forall_mem_cons.mpr ⟨gIL9_34, List.forall_mem_cons.mpr ⟨gIL9_35, List.forall_mem_cons.mpr ⟨gIL9_36, List.forall_mem_cons.mpr ⟨gIL9_37, List.forall_mem_cons.mpr ⟨gIL9_38, List.forall_mem_cons.mpr ⟨gIL9_39, List.forall_mem_cons.mpr ⟨gIL9_40, List.forall_mem_cons.mpr ⟨gIL9_41, List.forall_mem_cons.mpr ⟨gIL9_42, List.forall_mem_cons.mpr ⟨gIL9_43, List.forall_mem_cons.mpr ⟨gIL9_44, List.forall_mem_cons.mpr ⟨gIL9_45, List.forall_mem_cons.mpr ⟨gIL9_46, List.forall_mem_cons.mpr ⟨gIL9_47, List.forall_mem_cons.mpr ⟨gIL9_48, List.forall_mem_cons.mpr ⟨gIL9_49, List.forall_mem_cons.mpr ⟨gIL9_50, List.forall_mem_cons.mpr ⟨gIL9_51, List.forall_mem_cons.mpr ⟨gIL9_52, List.forall_mem_cons.mpr ⟨gIL9_53, List.forall_mem_cons.mpr ⟨gIL9_54, fun _ h => absurd h List.not_mem_nil⟩⟩⟩⟩⟩⟩⟩⟩⟩⟩⟩⟩⟩⟩⟩⟩⟩⟩⟩⟩⟩⟩⟩⟩⟩⟩⟩⟩⟩⟩⟩⟩⟩⟩⟩⟩⟩⟩⟩⟩⟩⟩⟩⟩⟩⟩⟩⟩⟩⟩⟩⟩⟩⟩⟩
theorem gIL10_0 : gchkI 10 (58, 0, 1, myX10_isSheet, [918, 919, 0, 920, 44]) = true := by decide +kernel
theorem gIL10_1 : gchkI 10 (54, 0, 3, myX10_in, [922, 923, 0, 924, 44]) = true := by decide +kernel
theorem gIL10_2 : gchkI 10 (65, 110, 2, myX10_finding, [927, 929, 8, 930, 44]) = true := by decide +kernel
theorem gIL10_3 : gchkI 10 (82, 0, 1, myX10_isWave, [948, 949, 0, 950, 44]) = true := by decide +kernel
theorem gIL10_4 : gchkI 10 (85, 110, 3, myX10_goWay, [951, 953, 9, 954, 44]) = true := by decide +kernel
theorem gIL10_5 : gchkI 10 (75, 0, 3, myX10_turnedRe, [955, 956, 0, 957, 44]) = true := by decide +kernel
theorem gIL10_6 : gchkI 10 (79, 0, 3, myX10_turnedIm, [958, 959, 0, 960, 44]) = true := by decide +kernel
theorem gIL10_7 : gchkI 10 (92, 110, 2, myX10_isMade, [963, 965, 10, 966, 44]) = true := by decide +kernel
theorem gIL10_8 : gchkI 10 (96, 110, 4, myX10_lookItems, [974, 976, 11, 977, 44]) = true := by decide +kernel
theorem gIL10_9 : gchkI 10 (100, 0, 1, myX10_isPlace, [982, 983, 0, 984, 44]) = true := by decide +kernel
theorem gIL10_10 : gchkI 10 (106, 110, 3, myX10_brightOf, [992, 994, 12, 995, 44]) = true := by decide +kernel
theorem gIL10_11 : gchkI 10 (196, 110, 1, myX10_readAll, [1010, 1012, 13, 1013, 44]) = true := by decide +kernel
theorem gIL10_12 : gchkI 10 (151, 110, 1, myX10_step, [1014, 1016, 14, 1017, 44]) = true := by decide +kernel
theorem gIL10_13 : gchkI 10 (123, 110, 2, myX10_byteAt, [1018, 1020, 15, 1021, 44]) = true := by decide +kernel
theorem gIL10_14 : gchkI 10 (132, 0, 1, myX10_isLetter, [1022, 1023, 0, 1024, 44]) = true := by decide +kernel
theorem gIL10_15 : gchkI 10 (135, 0, 1, myX10_isFigure, [1025, 1026, 0, 1027, 44]) = true := by decide +kernel
theorem gIL10_16 : gchkI 10 (193, 110, 1, myX10_readAct, [1028, 1030, 16, 1031, 44]) = true := by decide +kernel
theorem gIL10_17 : gchkI 10 (176, 110, 1, myX10_word, [1032, 1034, 17, 1035, 44]) = true := by decide +kernel
theorem gIL10_18 : gchkI 10 (154, 110, 2, myX10_must, [1043, 1045, 18, 1046, 44]) = true := by decide +kernel
theorem gIL10_19 : gchkI 10 (147, 110, 2, myX10_bad, [1047, 1049, 19, 1050, 44]) = true := by decide +kernel
theorem gIL10_20 : gchkI 10 (182, 110, 2, myX10_numberTo, [1051, 1053, 20, 1054, 44]) = true := by decide +kernel
theorem gIL10_21 : gchkI 10 (189, 110, 7, myX10_act, [1055, 1057, 21, 1058, 44]) = true := by decide +kernel
theorem gIL10_22 : gchkI 10 (158, 110, 2, myX10_asItIs, [1059, 1061, 22, 1062, 44]) = true := by decide +kernel
theorem gIL10_23 : gchkI 10 (205, 0, 1, myX10_isPlate, [1072, 1073, 0, 1074, 44]) = true := by decide +kernel
theorem gIL10_24 : gchkI 10 (210, 110, 2, myX10_lookAt, [1081, 1083, 23, 1084, 44]) = true := by decide +kernel
theorem gIL10_25 : gchkI 10 (213, 0, 1, myX10_told, [1085, 1086, 0, 1087, 44]) = true := by decide +kernel
theorem gIL10_26 : gchkI 10 (216, 110, 3, myX10_sends, [1096, 1098, 24, 1099, 44]) = true := by decide +kernel
theorem gIL10_27 : gchkI 10 (221, 110, 2, myX10_lostOn, [1109, 1111, 25, 1112, 44]) = true := by decide +kernel
theorem gIL10_28 : gchkI 10 (224, 0, 1, myX10_length, [1117, 1118, 0, 1119, 44]) = true := by decide +kernel
theorem gIL10_29 : gchkI 10 (228, 110, 4, myX10_isFit, [1124, 1126, 26, 1127, 44]) = true := by decide +kernel
theorem gIL10_30 : gchkI 10 (234, 110, 3, myX10_sumOf, [1133, 1135, 27, 1136, 44]) = true := by decide +kernel
theorem gIL10_31 : gchkI 10 (239, 110, 2, myX10_kindOf, [1146, 1148, 28, 1149, 44]) = true := by decide +kernel
theorem gIL10_32 : gchkI 10 (244, 0, 2, myX10_isOf, [1155, 1156, 0, 1157, 44]) = true := by decide +kernel
theorem gIL10_33 : gchkI 10 (257, 110, 3, myX10_markOf, [1162, 1164, 29, 1165, 44]) = true := by decide +kernel
theorem gIL10_34 : gchkI 10 (251, 110, 2, myX10_began, [1166, 1168, 30, 1169, 44]) = true := by decide +kernel
theorem gIL10_35 : gchkI 10 (254, 110, 3, myX10_clearSize, [1170, 1172, 31, 1173, 44]) = true := by decide +kernel
theorem gIL10_36 : gchkI 10 (260, 110, 3, myX10_tornSize, [1174, 1176, 32, 1177, 44]) = true := by decide +kernel
theorem gIL10_ok : ∀ e ∈ gIL10, gchkI 10 e = true := List.forall_mem_cons.mpr ⟨gIL10_0, List.forall_mem_cons.mpr ⟨gIL10_1, List.forall_mem_cons.mpr ⟨gIL10_2, List.forall_mem_cons.mpr ⟨gIL10_3, List.forall_mem_cons.mpr ⟨gIL10_4, List.forall_mem_cons.mpr ⟨gIL10_5, List.forall_mem_cons.mpr ⟨gIL10_6, List.forall_mem_cons.mpr ⟨gIL10_7, List.forall_mem_cons.mpr ⟨gIL10_8, List.forall_mem_cons.mpr ⟨gIL10_9, List.forall_mem_cons.mpr ⟨gIL10_10, List.forall_mem_cons.mpr ⟨gIL10_11, List.forall_mem_cons.mpr ⟨gIL10_12, List.forall_mem_cons.mpr ⟨gIL10_13, List.forall_mem_cons.mpr ⟨gIL10_14, List.forall_mem_cons.mpr ⟨gIL10_15, List.forall_mem_cons.mpr ⟨gIL10_16, List.forall_mem_cons.mpr ⟨gIL10_17, List.forall_mem_cons.mpr ⟨gIL10_18, List.forall_mem_cons.mpr ⟨gIL10_19, List.forall_mem_cons.mpr ⟨gIL10_20, List.forall_mem_cons.mpr ⟨gIL10_21, List.forall_mem_cons.mpr ⟨gIL10_22, List.forall_mem_cons.mpr ⟨gIL10_23, List.forall_mem_cons.mpr ⟨gIL10_24, List.forall_mem_cons.mpr ⟨gIL10_25, List.forall_mem_cons.mpr ⟨gIL10_26, List.forall_mem_cons.mpr ⟨gIL10_27, List.forall_mem_cons.mpr ⟨gIL10_28, List.forall_mem_cons.mpr ⟨gIL10_29, List.forall_mem_cons.mpr ⟨gIL10_30, List.forall_mem_cons.mpr ⟨gIL10_31, List.forall_mem_cons.mpr ⟨gIL10_32, List.forall_mem_cons.mpr ⟨gIL10_33, List.forall_mem_cons.mpr ⟨gIL10_34, List.forall_mem_cons.mpr ⟨gIL10_35, List.forall_mem_cons.mpr ⟨gIL10_36, fun _ h => absurd h List.not_mem_nil⟩⟩⟩⟩⟩⟩⟩⟩⟩⟩⟩⟩⟩⟩⟩⟩⟩⟩⟩⟩⟩⟩⟩⟩⟩⟩⟩⟩⟩⟩⟩⟩⟩⟩⟩⟩⟩
theorem gIL11_0 : gchkI 11 (13, 109, 4, myX9_sheet, [272, 273, 274, 275, 34]) = true := by decide +kernel
theorem gIL11_1 : gchkI 11 (18, 109, 4, myX9_set, [299, 300, 301, 302, 34]) = true := by decide +kernel
theorem gIL11_2 : gchkI 11 (22, 109, 6, myX9_copy, [315, 316, 317, 318, 34]) = true := by decide +kernel
theorem gIL11_3 : gchkI 11 (27, 109, 2, myX9_drop, [322, 323, 324, 325, 34]) = true := by decide +kernel
theorem gIL11_4 : gchkI 11 (34, 109, 3, myX9_feed, [330, 331, 332, 333, 34]) = true := by decide +kernel
theorem gIL11_5 : gchkI 11 (39, 109, 1, myX9_run, [339, 340, 341, 342, 34]) = true := by decide +kernel
theorem gIL11_6 : gchkI 11 (44, 109, 1, myX9_fault, [525, 526, 527, 528, 34]) = true := by decide +kernel
theorem gIL11_7 : gchkI 11 (48, 109, 3, myX9_way, [529, 530, 531, 532, 34]) = true := by decide +kernel
theorem gIL11_8 : gchkI 11 (53, 109, 4, myX9_lay, [542, 543, 544, 545, 34]) = true := by decide +kernel
theorem gIL11_9 : gchkI 11 (57, 109, 4, myX9_part, [546, 547, 548, 549, 34]) = true := by decide +kernel
theorem gIL11_10 : gchkI 11 (61, 109, 3, myX9_bright, [550, 551, 552, 553, 34]) = true := by decide +kernel
theorem gIL11_11 : gchkI 11 (66, 109, 4, myX9_moved, [559, 560, 561, 562, 34]) = true := by decide +kernel
theorem gIL11_12 : gchkI 11 (70, 109, 5, myX9_take, [565, 566, 567, 568, 34]) = true := by decide +kernel
theorem gIL11_13 : gchkI 11 (75, 109, 3, myX9_lose, [589, 590, 591, 592, 34]) = true := by decide +kernel
theorem gIL11_14 : gchkI 11 (79, 109, 3, myX9_grain, [606, 607, 608, 609, 34]) = true := by decide +kernel
theorem gIL11_15 : gchkI 11 (83, 109, 4, myX9_read, [610, 611, 612, 613, 34]) = true := by decide +kernel
theorem gIL11_16 : gchkI 11 (87, 109, 5, myX9_parts, [618, 619, 620, 621, 34]) = true := by decide +kernel
theorem gIL11_17 : gchkI 11 (91, 109, 3, myX9_off, [627, 628, 629, 630, 34]) = true := by decide +kernel
theorem gIL11_18 : gchkI 11 (95, 109, 4, myX9_lack, [631, 632, 633, 634, 34]) = true := by decide +kernel
theorem gIL11_19 : gchkI 11 (100, 109, 5, myX9_fits, [639, 640, 641, 642, 34]) = true := by decide +kernel
theorem gIL11_20 : gchkI 11 (104, 109, 4, myX9_mark, [677, 678, 679, 680, 34]) = true := by decide +kernel
theorem gIL11_21 : gchkI 11 (108, 109, 6, myX9_aim, [700, 701, 702, 703, 34]) = true := by decide +kernel
theorem gIL11_22 : gchkI 11 (112, 109, 2, myX9_kind, [712, 713, 714, 715, 34]) = true := by decide +kernel
theorem gIL11_23 : gchkI 11 (116, 109, 3, myX9_as, [726, 727, 728, 729, 34]) = true := by decide +kernel
theorem gIL11_24 : gchkI 11 (120, 109, 3, myX9_ask, [738, 739, 740, 741, 34]) = true := by decide +kernel
theorem gIL11_25 : gchkI 11 (124, 109, 2, myX9_trace, [804, 805, 806, 807, 34]) = true := by decide +kernel
theorem gIL11_26 : gchkI 11 (128, 109, 2, myX9_count, [808, 809, 810, 811, 34]) = true := by decide +kernel
theorem gIL11_27 : gchkI 11 (132, 109, 1, myX9_status, [828, 829, 830, 831, 34]) = true := by decide +kernel
theorem gIL11_28 : gchkI 11 (17, 110, 4, myX10_sheet, [914, 915, 916, 917, 44]) = true := by decide +kernel
theorem gIL11_29 : gchkI 11 (21, 110, 4, myX10_set, [932, 933, 934, 935, 44]) = true := by decide +kernel
theorem gIL11_30 : gchkI 11 (26, 110, 6, myX10_copy, [936, 937, 938, 939, 44]) = true := by decide +kernel
theorem gIL11_31 : gchkI 11 (31, 110, 2, myX10_drop, [940, 941, 942, 943, 44]) = true := by decide +kernel
theorem gIL11_32 : gchkI 11 (52, 110, 3, myX10_way, [944, 945, 946, 947, 44]) = true := by decide +kernel
theorem gIL11_33 : gchkI 11 (56, 110, 4, myX10_lay, [970, 971, 972, 973, 44]) = true := by decide +kernel
theorem gIL11_34 : gchkI 11 (60, 110, 4, myX10_part, [978, 979, 980, 981, 44]) = true := by decide +kernel
theorem gIL11_35 : gchkI 11 (65, 110, 3, myX10_bright, [986, 987, 988, 989, 44]) = true := by decide +kernel
theorem gIL11_36 : gchkI 11 (69, 110, 4, myX10_moved, [996, 997, 998, 999, 44]) = true := by decide +kernel
theorem gIL11_37 : gchkI 11 (38, 110, 3, myX10_feed, [1000, 1001, 1002, 1003, 44]) = true := by decide +kernel
theorem gIL11_38 : gchkI 11 (43, 110, 1, myX10_run, [1006, 1007, 1008, 1009, 44]) = true := by decide +kernel
theorem gIL11_39 : gchkI 11 (47, 110, 1, myX10_fault, [1064, 1065, 1066, 1067, 44]) = true := by decide +kernel
theorem gIL11_40 : gchkI 11 (74, 110, 5, myX10_take, [1068, 1069, 1070, 1071, 44]) = true := by decide +kernel
theorem gIL11_41 : gchkI 11 (78, 110, 3, myX10_lose, [1077, 1078, 1079, 1080, 44]) = true := by decide +kernel
theorem gIL11_42 : gchkI 11 (82, 110, 3, myX10_grain, [1088, 1089, 1090, 1091, 44]) = true := by decide +kernel
theorem gIL11_43 : gchkI 11 (86, 110, 4, myX10_read, [1092, 1093, 1094, 1095, 44]) = true := by decide +kernel
theorem gIL11_44 : gchkI 11 (90, 110, 5, myX10_parts, [1100, 1101, 1102, 1103, 44]) = true := by decide +kernel
theorem gIL11_45 : gchkI 11 (94, 110, 3, myX10_off, [1105, 1106, 1107, 1108, 44]) = true := by decide +kernel
theorem gIL11_46 : gchkI 11 (99, 110, 4, myX10_lack, [1113, 1114, 1115, 1116, 44]) = true := by decide +kernel
theorem gIL11_47 : gchkI 11 (103, 110, 5, myX10_fits, [1120, 1121, 1122, 1123, 44]) = true := by decide +kernel
theorem gIL11_48 : gchkI 11 (107, 110, 4, myX10_mark, [1128, 1129, 1130, 1131, 44]) = true := by decide +kernel
theorem gIL11_49 : gchkI 11 (111, 110, 6, myX10_aim, [1138, 1139, 1140, 1141, 44]) = true := by decide +kernel
theorem gIL11_50 : gchkI 11 (115, 110, 2, myX10_kind, [1142, 1143, 1144, 1145, 44]) = true := by decide +kernel
theorem gIL11_51 : gchkI 11 (119, 110, 3, myX10_as, [1150, 1151, 1152, 1153, 44]) = true := by decide +kernel
theorem gIL11_52 : gchkI 11 (123, 110, 3, myX10_ask, [1158, 1159, 1160, 1161, 44]) = true := by decide +kernel
theorem gIL11_53 : gchkI 11 (127, 110, 2, myX10_trace, [1178, 1179, 1180, 1181, 44]) = true := by decide +kernel
theorem gIL11_54 : gchkI 11 (131, 110, 2, myX10_count, [1182, 1183, 1184, 1185, 44]) = true := by decide +kernel
theorem gIL11_55 : gchkI 11 (135, 110, 1, myX10_status, [1186, 1187, 1188, 1189, 44]) = true := by decide +kernel
theorem gIL11_ok : ∀ e ∈ gIL11, gchkI 11 e = true := List.forall_mem_cons.mpr ⟨gIL11_0, List.forall_mem_cons.mpr ⟨gIL11_1, List.forall_mem_cons.mpr ⟨gIL11_2, List.forall_mem_cons.mpr ⟨gIL11_3, List.forall_mem_cons.mpr ⟨gIL11_4, List.forall_mem_cons.mpr ⟨gIL11_5, List.forall_mem_cons.mpr ⟨gIL11_6, List.forall_mem_cons.mpr ⟨gIL11_7, List.forall_mem_cons.mpr ⟨gIL11_8, List.forall_mem_cons.mpr ⟨gIL11_9, List.forall_mem_cons.mpr ⟨gIL11_10, List.forall_mem_cons.mpr ⟨gIL11_11, List.forall_mem_cons.mpr ⟨gIL11_12, List.forall_mem_cons.mpr ⟨gIL11_13, List.forall_mem_cons.mpr ⟨gIL11_14, List.forall_mem_cons.mpr ⟨gIL11_15, List.forall_mem_cons.mpr ⟨gIL11_16, List.forall_mem_cons.mpr ⟨gIL11_17, List.forall_mem_cons.mpr ⟨gIL11_18, List.forall_mem_cons.mpr ⟨gIL11_19, List.forall_mem_cons.mpr ⟨gIL11_20, List.forall_mem_cons.mpr ⟨gIL11_21, List.forall_mem_cons.mpr ⟨gIL11_22, List.forall_mem_cons.mpr ⟨gIL11_23, List.forall_mem_cons.mpr ⟨gIL11_24, List.forall_mem_cons.mpr ⟨gIL11_25, List.forall_mem_cons.mpr ⟨gIL11_26, List.forall_mem_cons.mpr ⟨gIL11_27, List.forall_mem_cons.mpr ⟨gIL11_28, List.forall_mem_cons.mpr ⟨gIL11_29, List.forall_mem_cons.mpr ⟨gIL11_30, List.forall_mem_cons.mpr ⟨gIL11_31, List.forall_mem_cons.mpr ⟨gIL11_32, List.forall_mem_cons.mpr ⟨gIL11_33, List.forall_mem_cons.mpr ⟨gIL11_34, List.forall_mem_cons.mpr ⟨gIL11_35, List.forall_mem_cons.mpr ⟨gIL11_36, List.forall_mem_cons.mpr ⟨gIL11_37, List.forall_mem_cons.mpr ⟨gIL11_38, List.forall_mem_cons.mpr ⟨gIL11_39, List.forall_mem_cons.mpr ⟨gIL11_40, List.forall_mem_cons.mpr ⟨gIL11_41, List.forall_mem_cons.mpr ⟨gIL11_42, List.forall_mem_cons.mpr ⟨gIL11_43, List.forall_mem_cons.mpr ⟨gIL11_44, List.forall_mem_cons.mpr ⟨gIL11_45, List.forall_mem_cons.mpr ⟨gIL11_46, List.forall_mem_cons.mpr ⟨gIL11_47, List.forall_mem_cons.mpr ⟨gIL11_48, List.forall_mem_cons.mpr ⟨gIL11_49, List.forall_mem_cons.mpr ⟨gIL11_50, List.forall_mem_cons.mpr ⟨gIL11_51, List.forall_mem_cons.mpr ⟨gIL11_52, List.forall_mem_cons.mpr ⟨gIL11_53, List.forall_mem_cons.mpr ⟨gIL11_54, List.forall_mem_cons.mpr ⟨gIL11_55, fun _ h => absurd h List.not_mem_nil⟩⟩⟩⟩⟩⟩⟩⟩⟩⟩⟩⟩⟩⟩⟩⟩⟩⟩⟩⟩⟩⟩⟩⟩⟩⟩⟩⟩⟩⟩⟩⟩⟩⟩⟩⟩⟩⟩⟩⟩⟩⟩⟩⟩⟩⟩⟩⟩⟩⟩⟩⟩⟩⟩⟩⟩
theorem gIL12_ok : ∀ e ∈ gIL12, gchkI 12 e = true := fun _ h => absurd h List.not_mem_nil
theorem gIL13_ok : ∀ e ∈ gIL13, gchkI 13 e = true := fun _ h => absurd h List.not_mem_nil
theorem gIL14_0 : gchkI 14 (335, 114, 1, myJ0_coder_7d493, [396, 397, 398, 399, 47]) = true := by decide +kernel
theorem gIL14_1 : gchkI 14 (492, 114, 1, myJ0_isLatin1_aae02, [406, 407, 408, 409, 47]) = true := by decide +kernel
theorem gIL14_2 : gchkI 14 (495, 0, 2, myJ1_charAt_3b067, [410, 411, 0, 412, 48]) = true := by decide +kernel
theorem gIL14_3 : gchkI 14 (1059, 0, 3, myJ3_checkIndex_8e157, [418, 419, 0, 420, 49]) = true := by decide +kernel
theorem gIL14_4 : gchkI 14 (498, 0, 2, myJ2_charAt_3b067, [421, 422, 0, 423, 50]) = true := by decide +kernel
theorem gIL14_ok : ∀ e ∈ gIL14, gchkI 14 e = true := List.forall_mem_cons.mpr ⟨gIL14_0, List.forall_mem_cons.mpr ⟨gIL14_1, List.forall_mem_cons.mpr ⟨gIL14_2, List.forall_mem_cons.mpr ⟨gIL14_3, List.forall_mem_cons.mpr ⟨gIL14_4, fun _ h => absurd h List.not_mem_nil⟩⟩⟩⟩⟩
theorem gIL15_0 : gchkI 15 (9, 0, 2, myJ0_checkIndex_df160, [413, 414, 0, 415, 47]) = true := by decide +kernel
theorem gIL15_ok : ∀ e ∈ gIL15, gchkI 15 e = true := List.forall_mem_cons.mpr ⟨gIL15_0, fun _ h => absurd h List.not_mem_nil⟩
theorem gIL16_0 : gchkI 16 (67, 0, 2, myJ2_checkIndex_2214a, [424, 425, 0, 426, 50]) = true := by decide +kernel
theorem gIL16_1 : gchkI 16 (48, 0, 1, myJ2_length_9d52b, [427, 428, 0, 429, 50]) = true := by decide +kernel
theorem gIL16_2 : gchkI 16 (414, 0, 2, myJ0_checkIndex_df160, [430, 414, 0, 415, 47]) = true := by decide +kernel
theorem gIL16_3 : gchkI 16 (71, 0, 2, myJ2_getChar_3b067, [431, 432, 0, 433, 50]) = true := by decide +kernel
theorem gIL16_ok : ∀ e ∈ gIL16, gchkI 16 e = true := List.forall_mem_cons.mpr ⟨gIL16_0, List.forall_mem_cons.mpr ⟨gIL16_1, List.forall_mem_cons.mpr ⟨gIL16_2, List.forall_mem_cons.mpr ⟨gIL16_3, fun _ h => absurd h List.not_mem_nil⟩⟩⟩⟩
theorem gIL17_ok : ∀ e ∈ gIL17, gchkI 17 e = true := fun _ h => absurd h List.not_mem_nil
theorem gIL18_ok : ∀ e ∈ gIL18, gchkI 18 e = true := fun _ h => absurd h List.not_mem_nil
theorem gIL19_ok : ∀ e ∈ gIL19, gchkI 19 e = true := fun _ h => absurd h List.not_mem_nil
theorem gIL_ok : ∀ (o : Nat), ∀ e ∈ gIL o, gchkI o e = true
  | 0 => gIL0_ok
  | 1 => gIL1_ok
  | 2 => gIL2_ok
  | 3 => gIL3_ok
  | 4 => gIL4_ok
  | 5 => gIL5_ok
  | 6 => gIL6_ok
  | 7 => gIL7_ok
  | 8 => gIL8_ok
  | 9 => gIL9_ok
  | 10 => gIL10_ok
  | 11 => gIL11_ok
  | 12 => gIL12_ok
  | 13 => gIL13_ok
  | 14 => gIL14_ok
  | 15 => gIL15_ok
  | 16 => gIL16_ok
  | 17 => gIL17_ok
  | 18 => gIL18_ok
  | 19 => gIL19_ok
  | _ + 20 => fun _ h => absurd h List.not_mem_nil
set_option maxRecDepth 100000 in
theorem gSL_ok : gSL.all (fun e => gin e.2.2.2 (.fieldLink (gcn e.1) e.2.1 (gcn e.1) (gSN e.2.2.1) "[I") && decide (40 ≤ e.2.2.1 ∧ e.2.2.1 < 47)) = true := by decide +kernel
set_option maxRecDepth 100000 in
theorem gACL_ok : gACL.all (fun e => gin e.2.2 (.methodLink (gcn e.1) e.2.1 arraycopyName)) = true := by decide +kernel
theorem gsys_ok : (gin gP_native (.native arraycopyName) && gin gP_acs (.static arraycopyName) && gin gP_sys (.initialized "java/lang/System")) = true := by decide +kernel
theorem gstr_ok : (gin gP_value (.fieldLink (gcn 14) gX_value "java/lang/String" "value" "[B") && gin gP_coder (.fieldLink (gcn 14) gX_coder "java/lang/String" "coder" "B") && gin gP_COMPACT_STRINGS (.fieldLink (gcn 14) gX_COMPACT_STRINGS "java/lang/String" "COMPACT_STRINGS" "Z") && gin gP_SIOOBE_FORMATTER (.fieldLink (gcn 14) gX_SIOOBE_FORMATTER "jdk/internal/util/Preconditions" "SIOOBE_FORMATTER" "Ljava/util/function/BiFunction;")) = true := by decide +kernel
theorem gSRL_ok : gSRL.all (fun e => decide (e.1 = 5) && decide (e.2.2 < 7)) = true := by decide +kernel
/-- what is known of a class -/
def gClk (ci : Nat) (C : String) (T : u_T) (N : Nat) (ty0 : Nat → FieldType) : Prop := gCl[ci]? = some (C, T, N) ∧ C = gcn ci ∧ (∀ w ∈ u_ws C T N, w ∈ gWs) ∧ (∀ k, k < N → parseFieldDescriptor (T k).2.2.1 = some (ty0 k)) ∧ (∀ a, a < N → ∀ b, b < N → a ≠ b → (T a).2.1 ≠ (T b).2.1) ∧ (gF ci).length = N ∧ (gFin ci).length = N ∧ gA ci = none ∧ ∀ j, j < N → ((gF ci).getD j 0 = 0 → ty0 j = .int) ∧ ((gF ci).getD j 0 = 1 → ty0 j = .boolean) ∧ (gFin ci).getD j true = (T j).2.2.2
set_option maxRecDepth 100000 in
theorem gclk0 : gClk 0 RX0 TX0 2 tyX0 := ⟨rfl, rfl, by decide +kernel, tyX0_ok, nmX0, rfl, rfl, rfl, by decide +kernel⟩
set_option maxRecDepth 100000 in
theorem gclk1 : gClk 1 RX1 TX1 2 tyX1 := ⟨rfl, rfl, by decide +kernel, tyX1_ok, nmX1, rfl, rfl, rfl, by decide +kernel⟩
set_option maxRecDepth 100000 in
theorem gclk2 : gClk 2 RX2 TX2 3 tyX2 := ⟨rfl, rfl, by decide +kernel, tyX2_ok, nmX2, rfl, rfl, rfl, by decide +kernel⟩
set_option maxRecDepth 100000 in
theorem gclk3 : gClk 3 RX3 TX3 3 tyX3 := ⟨rfl, rfl, by decide +kernel, tyX3_ok, nmX3, rfl, rfl, rfl, by decide +kernel⟩
set_option maxRecDepth 100000 in
theorem gclk4 : gClk 4 RX4 TX4 2 tyX4 := ⟨rfl, rfl, by decide +kernel, tyX4_ok, nmX4, rfl, rfl, rfl, by decide +kernel⟩
set_option maxRecDepth 100000 in
theorem gclk5 : gClk 5 RX5 TX5 5 tyX5 := ⟨rfl, rfl, by decide +kernel, tyX5_ok, nmX5, rfl, rfl, rfl, by decide +kernel⟩
set_option maxRecDepth 100000 in
theorem gclk6 : gClk 6 RX6 TX6 3 tyX6 := ⟨rfl, rfl, by decide +kernel, tyX6_ok, nmX6, rfl, rfl, rfl, by decide +kernel⟩
set_option maxRecDepth 100000 in
theorem gclk7 : gClk 7 RX7 TX7 6 tyX7 := ⟨rfl, rfl, by decide +kernel, tyX7_ok, nmX7, rfl, rfl, rfl, by decide +kernel⟩
set_option maxRecDepth 100000 in
theorem gclk8 : gClk 8 RX8 TX8 2 tyX8 := ⟨rfl, rfl, by decide +kernel, tyX8_ok, nmX8, rfl, rfl, rfl, by decide +kernel⟩
set_option maxRecDepth 100000 in
theorem gclk9 : gClk 9 RX9 TX9 11 tyX9 := ⟨rfl, rfl, by decide +kernel, tyX9_ok, nmX9, rfl, rfl, rfl, by decide +kernel⟩
set_option maxRecDepth 100000 in
theorem gclk10 : gClk 10 RX10 TX10 25 tyX10 := ⟨rfl, rfl, by decide +kernel, tyX10_ok, nmX10, rfl, rfl, rfl, by decide +kernel⟩
theorem gclk (ci : Nat) (h : ci < 11) : ∃ (C : String) (T : u_T) (N : Nat) (ty0 : Nat → FieldType), gClk ci C T N ty0 := match ci, h with
  | 0, _ => ⟨_, _, _, _, gclk0⟩
  | 1, _ => ⟨_, _, _, _, gclk1⟩
  | 2, _ => ⟨_, _, _, _, gclk2⟩
  | 3, _ => ⟨_, _, _, _, gclk3⟩
  | 4, _ => ⟨_, _, _, _, gclk4⟩
  | 5, _ => ⟨_, _, _, _, gclk5⟩
  | 6, _ => ⟨_, _, _, _, gclk6⟩
  | 7, _ => ⟨_, _, _, _, gclk7⟩
  | 8, _ => ⟨_, _, _, _, gclk8⟩
  | 9, _ => ⟨_, _, _, _, gclk9⟩
  | 10, _ => ⟨_, _, _, _, gclk10⟩
  | n + 11, h => absurd h (by omega)
