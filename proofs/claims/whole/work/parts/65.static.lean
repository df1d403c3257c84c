/-! THE LAW'S ENTRY: statics and texts -/
section ENTRY
variable {s : State} {args : Array Value}
def gStX (st adK adV : Nat → Nat) (fv : Value) (A : Nat → Prop) (U : State) (H : Heap) : Prop :=
  (∀ e ∈ gSL, va_Z (gcn e.1) (gSN e.2.2.1) "[I" (.ref (st e.2.2.1)) A U H ∧ va_T .int (st e.2.2.1) (gSV e.2.2.1).length (fun j => .int ((gSV e.2.2.1).getD j 0)) A U H) ∧
  va_Z "java/lang/String" "COMPACT_STRINGS" "Z" (.int 1) A U H ∧
  va_Z "jdk/internal/util/Preconditions" "SIOOBE_FORMATTER" "Ljava/util/function/BiFunction;" fv A U H ∧
  vk_S 7 gLen gByt adK adV A U H ∧
  (∀ e ∈ gSRL, vk_R (gcn e.1) e.2.1 (gTx e.2.2) (adK e.2.2) U) ∧
  ∀ (o : Nat), ∀ e ∈ gIL o, e.2.1 = 2 → va_Nw (.methodLinkNest (gcn o) e.1 e.2.2.2.1.1 "GrainWaves") U
set_option maxHeartbeats 4000000 in
set_option maxRecDepth 100000 in
theorem ls_static {A : Nat → Prop} (hts : ∀ w ∈ lw_tbl, w.before args s = true) (hgv : (Jvm.Cond.and given_1 narrow_1).before args s = true) (hA : ∀ a : Nat, a < s.heap.size → ¬ A a) : ∃ (st adK adV : Nat → Nat) (fv : Value), fv.category = 1 ∧ gStX st adK adV fv A s s.heap := by
  have hfl := flat_of_before _ hgv
  have el40 : ∀ j : Nat, j < 5 → (Term.elem (.static "GrainWaves$Script" "SOURCE_MOST" "[I") (.int (Int32.ofNat j))).eval args s none [] s = some (.int ((gSV 40).getD j 0)) := by
    intro j hj
    rcases (show j = 0 ∨ j = 1 ∨ j = 2 ∨ j = 3 ∨ j = 4 by omega) with rfl | rfl | rfl | rfl | rfl
    · exact va_eqt (hfl _ (List.mem_of_getElem? (i := 12) (by decide +kernel)))
    · exact va_eqt (hfl _ (List.mem_of_getElem? (i := 13) (by decide +kernel)))
    · exact va_eqt (hfl _ (List.mem_of_getElem? (i := 14) (by decide +kernel)))
    · exact va_eqt (hfl _ (List.mem_of_getElem? (i := 15) (by decide +kernel)))
    · exact va_eqt (hfl _ (List.mem_of_getElem? (i := 16) (by decide +kernel)))
  obtain ⟨t40, e40, T40⟩ := va_Tof (args := args) (s := s) (tm := .static "GrainWaves$Script" "SOURCE_MOST" "[I") (ty := .int) (N := 5) (f := fun j => .int ((gSV 40).getD j 0)) (A := A) (by decide) (hfl _ (List.mem_of_getElem? (i := 10) (by decide +kernel))) (va_eqt (hfl _ (List.mem_of_getElem? (i := 11) (by decide +kernel)))) el40 hA
  have Z40 := va_Zref (A := A) (hts _ (List.mem_of_getElem? (i := 448) (by decide +kernel))) (hts _ (List.mem_of_getElem? (i := 37) (by decide +kernel))) e40 hA
  have el41 : ∀ j : Nat, j < 3 → (Term.elem (.static "GrainWaves$Script" "DIM_MOST" "[I") (.int (Int32.ofNat j))).eval args s none [] s = some (.int ((gSV 41).getD j 0)) := by
    intro j hj
    rcases (show j = 0 ∨ j = 1 ∨ j = 2 by omega) with rfl | rfl | rfl
    · exact va_eqt (hfl _ (List.mem_of_getElem? (i := 20) (by decide +kernel)))
    · exact va_eqt (hfl _ (List.mem_of_getElem? (i := 21) (by decide +kernel)))
    · exact va_eqt (hfl _ (List.mem_of_getElem? (i := 22) (by decide +kernel)))
  obtain ⟨t41, e41, T41⟩ := va_Tof (args := args) (s := s) (tm := .static "GrainWaves$Script" "DIM_MOST" "[I") (ty := .int) (N := 3) (f := fun j => .int ((gSV 41).getD j 0)) (A := A) (by decide) (hfl _ (List.mem_of_getElem? (i := 18) (by decide +kernel))) (va_eqt (hfl _ (List.mem_of_getElem? (i := 19) (by decide +kernel)))) el41 hA
  have Z41 := va_Zref (A := A) (hts _ (List.mem_of_getElem? (i := 450) (by decide +kernel))) (hts _ (List.mem_of_getElem? (i := 37) (by decide +kernel))) e41 hA
  have el42 : ∀ j : Nat, j < 4 → (Term.elem (.static "GrainWaves$Script" "TURN_MOST" "[I") (.int (Int32.ofNat j))).eval args s none [] s = some (.int ((gSV 42).getD j 0)) := by
    intro j hj
    rcases (show j = 0 ∨ j = 1 ∨ j = 2 ∨ j = 3 by omega) with rfl | rfl | rfl | rfl
    · exact va_eqt (hfl _ (List.mem_of_getElem? (i := 26) (by decide +kernel)))
    · exact va_eqt (hfl _ (List.mem_of_getElem? (i := 27) (by decide +kernel)))
    · exact va_eqt (hfl _ (List.mem_of_getElem? (i := 28) (by decide +kernel)))
    · exact va_eqt (hfl _ (List.mem_of_getElem? (i := 29) (by decide +kernel)))
  obtain ⟨t42, e42, T42⟩ := va_Tof (args := args) (s := s) (tm := .static "GrainWaves$Script" "TURN_MOST" "[I") (ty := .int) (N := 4) (f := fun j => .int ((gSV 42).getD j 0)) (A := A) (by decide) (hfl _ (List.mem_of_getElem? (i := 24) (by decide +kernel))) (va_eqt (hfl _ (List.mem_of_getElem? (i := 25) (by decide +kernel)))) el42 hA
  have Z42 := va_Zref (A := A) (hts _ (List.mem_of_getElem? (i := 452) (by decide +kernel))) (hts _ (List.mem_of_getElem? (i := 37) (by decide +kernel))) e42 hA
  have el43 : ∀ j : Nat, j < 2 → (Term.elem (.static "GrainWaves$Script" "ADD_MOST" "[I") (.int (Int32.ofNat j))).eval args s none [] s = some (.int ((gSV 43).getD j 0)) := by
    intro j hj
    rcases (show j = 0 ∨ j = 1 by omega) with rfl | rfl
    · exact va_eqt (hfl _ (List.mem_of_getElem? (i := 33) (by decide +kernel)))
    · exact va_eqt (hfl _ (List.mem_of_getElem? (i := 34) (by decide +kernel)))
  obtain ⟨t43, e43, T43⟩ := va_Tof (args := args) (s := s) (tm := .static "GrainWaves$Script" "ADD_MOST" "[I") (ty := .int) (N := 2) (f := fun j => .int ((gSV 43).getD j 0)) (A := A) (by decide) (hfl _ (List.mem_of_getElem? (i := 31) (by decide +kernel))) (va_eqt (hfl _ (List.mem_of_getElem? (i := 32) (by decide +kernel)))) el43 hA
  have Z43 := va_Zref (A := A) (hts _ (List.mem_of_getElem? (i := 454) (by decide +kernel))) (hts _ (List.mem_of_getElem? (i := 37) (by decide +kernel))) e43 hA
  have el44 : ∀ j : Nat, j < 1 → (Term.elem (.static "GrainWaves$Script" "WAVE_MOST" "[I") (.int (Int32.ofNat j))).eval args s none [] s = some (.int ((gSV 44).getD j 0)) := by
    intro j hj
    obtain rfl : j = 0 := by omega
    exact va_eqt (hfl _ (List.mem_of_getElem? (i := 38) (by decide +kernel)))
  obtain ⟨t44, e44, T44⟩ := va_Tof (args := args) (s := s) (tm := .static "GrainWaves$Script" "WAVE_MOST" "[I") (ty := .int) (N := 1) (f := fun j => .int ((gSV 44).getD j 0)) (A := A) (by decide) (hfl _ (List.mem_of_getElem? (i := 36) (by decide +kernel))) (va_eqt (hfl _ (List.mem_of_getElem? (i := 37) (by decide +kernel)))) el44 hA
  have Z44 := va_Zref (A := A) (hts _ (List.mem_of_getElem? (i := 456) (by decide +kernel))) (hts _ (List.mem_of_getElem? (i := 37) (by decide +kernel))) e44 hA
  have el45 : ∀ j : Nat, j < 4 → (Term.elem (.static "GrainWaves$Rows" "UNIT_RE" "[I") (.int (Int32.ofNat j))).eval args s none [] s = some (.int ((gSV 45).getD j 0)) := by
    intro j hj
    rcases (show j = 0 ∨ j = 1 ∨ j = 2 ∨ j = 3 by omega) with rfl | rfl | rfl | rfl
    · exact va_eqt (hfl _ (List.mem_of_getElem? (i := 42) (by decide +kernel)))
    · exact va_eqt (hfl _ (List.mem_of_getElem? (i := 43) (by decide +kernel)))
    · exact va_eqt (hfl _ (List.mem_of_getElem? (i := 44) (by decide +kernel)))
    · exact va_eqt (hfl _ (List.mem_of_getElem? (i := 45) (by decide +kernel)))
  obtain ⟨t45, e45, T45⟩ := va_Tof (args := args) (s := s) (tm := .static "GrainWaves$Rows" "UNIT_RE" "[I") (ty := .int) (N := 4) (f := fun j => .int ((gSV 45).getD j 0)) (A := A) (by decide) (hfl _ (List.mem_of_getElem? (i := 40) (by decide +kernel))) (va_eqt (hfl _ (List.mem_of_getElem? (i := 41) (by decide +kernel)))) el45 hA
  have Z45 := va_Zref (A := A) (hts _ (List.mem_of_getElem? (i := 669) (by decide +kernel))) (hts _ (List.mem_of_getElem? (i := 38) (by decide +kernel))) e45 hA
  have el46 : ∀ j : Nat, j < 4 → (Term.elem (.static "GrainWaves$Rows" "UNIT_IM" "[I") (.int (Int32.ofNat j))).eval args s none [] s = some (.int ((gSV 46).getD j 0)) := by
    intro j hj
    rcases (show j = 0 ∨ j = 1 ∨ j = 2 ∨ j = 3 by omega) with rfl | rfl | rfl | rfl
    · exact va_eqt (hfl _ (List.mem_of_getElem? (i := 49) (by decide +kernel)))
    · exact va_eqt (hfl _ (List.mem_of_getElem? (i := 50) (by decide +kernel)))
    · exact va_eqt (hfl _ (List.mem_of_getElem? (i := 51) (by decide +kernel)))
    · exact va_eqt (hfl _ (List.mem_of_getElem? (i := 52) (by decide +kernel)))
  obtain ⟨t46, e46, T46⟩ := va_Tof (args := args) (s := s) (tm := .static "GrainWaves$Rows" "UNIT_IM" "[I") (ty := .int) (N := 4) (f := fun j => .int ((gSV 46).getD j 0)) (A := A) (by decide) (hfl _ (List.mem_of_getElem? (i := 47) (by decide +kernel))) (va_eqt (hfl _ (List.mem_of_getElem? (i := 48) (by decide +kernel)))) el46 hA
  have Z46 := va_Zref (A := A) (hts _ (List.mem_of_getElem? (i := 671) (by decide +kernel))) (hts _ (List.mem_of_getElem? (i := 38) (by decide +kernel))) e46 hA
  have ZC := va_Zof (A := A) (hts _ (List.mem_of_getElem? (i := 401) (by decide +kernel))) (hts _ (List.mem_of_getElem? (i := 47) (by decide +kernel))) (va_eqt (t := .static "java/lang/String" "COMPACT_STRINGS" "Z") (z := 1) (hfl _ (List.mem_of_getElem? (i := 4) (by decide +kernel)))) hA
  have ZF := va_Zqof (C := "jdk/internal/util/Preconditions") (n := "SIOOBE_FORMATTER") (d := "Ljava/util/function/BiFunction;") (A := A) (hts _ (List.mem_of_getElem? (i := 417) (by decide +kernel))) (hts _ (List.mem_of_getElem? (i := 49) (by decide +kernel))) (hfl _ (List.mem_of_getElem? (i := 5) (by decide +kernel))) hA
  have hex : ∀ i : Nat, i < 7 → (Cond.exactly (.string "GrainWaves$Script" (69 + 2 * i)) "java/lang/String").before args s = true := by
    intro i hi
    rcases (show i = 0 ∨ i = 1 ∨ i = 2 ∨ i = 3 ∨ i = 4 ∨ i = 5 ∨ i = 6 by omega) with rfl | rfl | rfl | rfl | rfl | rfl | rfl
    · exact (hfl _ (List.mem_of_getElem? (i := 53) (by decide +kernel)))
    · exact (hfl _ (List.mem_of_getElem? (i := 62) (by decide +kernel)))
    · exact (hfl _ (List.mem_of_getElem? (i := 72) (by decide +kernel)))
    · exact (hfl _ (List.mem_of_getElem? (i := 81) (by decide +kernel)))
    · exact (hfl _ (List.mem_of_getElem? (i := 92) (by decide +kernel)))
    · exact (hfl _ (List.mem_of_getElem? (i := 103) (by decide +kernel)))
    · exact (hfl _ (List.mem_of_getElem? (i := 115) (by decide +kernel)))
  have hco : ∀ i : Nat, i < 7 → (Cond.eq (.field (.string "GrainWaves$Script" (69 + 2 * i)) "java/lang/String" "coder" "B") (.int 0)).before args s = true := by
    intro i hi
    rcases (show i = 0 ∨ i = 1 ∨ i = 2 ∨ i = 3 ∨ i = 4 ∨ i = 5 ∨ i = 6 by omega) with rfl | rfl | rfl | rfl | rfl | rfl | rfl
    · exact (hfl _ (List.mem_of_getElem? (i := 54) (by decide +kernel)))
    · exact (hfl _ (List.mem_of_getElem? (i := 63) (by decide +kernel)))
    · exact (hfl _ (List.mem_of_getElem? (i := 73) (by decide +kernel)))
    · exact (hfl _ (List.mem_of_getElem? (i := 82) (by decide +kernel)))
    · exact (hfl _ (List.mem_of_getElem? (i := 93) (by decide +kernel)))
    · exact (hfl _ (List.mem_of_getElem? (i := 104) (by decide +kernel)))
    · exact (hfl _ (List.mem_of_getElem? (i := 116) (by decide +kernel)))
  have har : ∀ i : Nat, i < 7 → (Cond.arrayOf (.field (.string "GrainWaves$Script" (69 + 2 * i)) "java/lang/String" "value" "[B") .byte).before args s = true := by
    intro i hi
    rcases (show i = 0 ∨ i = 1 ∨ i = 2 ∨ i = 3 ∨ i = 4 ∨ i = 5 ∨ i = 6 by omega) with rfl | rfl | rfl | rfl | rfl | rfl | rfl
    · exact (hfl _ (List.mem_of_getElem? (i := 55) (by decide +kernel)))
    · exact (hfl _ (List.mem_of_getElem? (i := 64) (by decide +kernel)))
    · exact (hfl _ (List.mem_of_getElem? (i := 74) (by decide +kernel)))
    · exact (hfl _ (List.mem_of_getElem? (i := 83) (by decide +kernel)))
    · exact (hfl _ (List.mem_of_getElem? (i := 94) (by decide +kernel)))
    · exact (hfl _ (List.mem_of_getElem? (i := 105) (by decide +kernel)))
    · exact (hfl _ (List.mem_of_getElem? (i := 117) (by decide +kernel)))
  have hle : ∀ i : Nat, i < 7 → (Cond.eq (.length (.field (.string "GrainWaves$Script" (69 + 2 * i)) "java/lang/String" "value" "[B")) (.int (Int32.ofNat (gLen.getD i 0)))).before args s = true := by
    intro i hi
    rcases (show i = 0 ∨ i = 1 ∨ i = 2 ∨ i = 3 ∨ i = 4 ∨ i = 5 ∨ i = 6 by omega) with rfl | rfl | rfl | rfl | rfl | rfl | rfl
    · exact (hfl _ (List.mem_of_getElem? (i := 56) (by decide +kernel)))
    · exact (hfl _ (List.mem_of_getElem? (i := 65) (by decide +kernel)))
    · exact (hfl _ (List.mem_of_getElem? (i := 75) (by decide +kernel)))
    · exact (hfl _ (List.mem_of_getElem? (i := 84) (by decide +kernel)))
    · exact (hfl _ (List.mem_of_getElem? (i := 95) (by decide +kernel)))
    · exact (hfl _ (List.mem_of_getElem? (i := 106) (by decide +kernel)))
    · exact (hfl _ (List.mem_of_getElem? (i := 118) (by decide +kernel)))
  have hel : ∀ i : Nat, i < 7 → ∀ j : Nat, j < gLen.getD i 0 → (Cond.eq (.elem (.field (.string "GrainWaves$Script" (69 + 2 * i)) "java/lang/String" "value" "[B") (.int (Int32.ofNat j))) (.int ((gByt.getD i []).getD j 0))).before args s = true := by
    intro i hi j hj
    rcases (show i = 0 ∨ i = 1 ∨ i = 2 ∨ i = 3 ∨ i = 4 ∨ i = 5 ∨ i = 6 by omega) with rfl | rfl | rfl | rfl | rfl | rfl | rfl
    · have hj : j < 5 := hj
      rcases (show j = 0 ∨ j = 1 ∨ j = 2 ∨ j = 3 ∨ j = 4 by omega) with rfl | rfl | rfl | rfl | rfl
      · exact (hfl _ (List.mem_of_getElem? (i := 57) (by decide +kernel)))
      · exact (hfl _ (List.mem_of_getElem? (i := 58) (by decide +kernel)))
      · exact (hfl _ (List.mem_of_getElem? (i := 59) (by decide +kernel)))
      · exact (hfl _ (List.mem_of_getElem? (i := 60) (by decide +kernel)))
      · exact (hfl _ (List.mem_of_getElem? (i := 61) (by decide +kernel)))
    · have hj : j < 5 := hj
      rcases (show j = 0 ∨ j = 1 ∨ j = 2 ∨ j = 3 ∨ j = 4 by omega) with rfl | rfl | rfl | rfl | rfl
      · exact (hfl _ (List.mem_of_getElem? (i := 66) (by decide +kernel)))
      · exact (hfl _ (List.mem_of_getElem? (i := 67) (by decide +kernel)))
      · exact (hfl _ (List.mem_of_getElem? (i := 68) (by decide +kernel)))
      · exact (hfl _ (List.mem_of_getElem? (i := 69) (by decide +kernel)))
      · exact (hfl _ (List.mem_of_getElem? (i := 70) (by decide +kernel)))
    · have hj : j < 3 := hj
      rcases (show j = 0 ∨ j = 1 ∨ j = 2 by omega) with rfl | rfl | rfl
      · exact (hfl _ (List.mem_of_getElem? (i := 76) (by decide +kernel)))
      · exact (hfl _ (List.mem_of_getElem? (i := 77) (by decide +kernel)))
      · exact (hfl _ (List.mem_of_getElem? (i := 78) (by decide +kernel)))
    · have hj : j < 4 := hj
      rcases (show j = 0 ∨ j = 1 ∨ j = 2 ∨ j = 3 by omega) with rfl | rfl | rfl | rfl
      · exact (hfl _ (List.mem_of_getElem? (i := 85) (by decide +kernel)))
      · exact (hfl _ (List.mem_of_getElem? (i := 86) (by decide +kernel)))
      · exact (hfl _ (List.mem_of_getElem? (i := 87) (by decide +kernel)))
      · exact (hfl _ (List.mem_of_getElem? (i := 88) (by decide +kernel)))
    · have hj : j < 3 := hj
      rcases (show j = 0 ∨ j = 1 ∨ j = 2 by omega) with rfl | rfl | rfl
      · exact (hfl _ (List.mem_of_getElem? (i := 96) (by decide +kernel)))
      · exact (hfl _ (List.mem_of_getElem? (i := 97) (by decide +kernel)))
      · exact (hfl _ (List.mem_of_getElem? (i := 98) (by decide +kernel)))
    · have hj : j < 3 := hj
      rcases (show j = 0 ∨ j = 1 ∨ j = 2 by omega) with rfl | rfl | rfl
      · exact (hfl _ (List.mem_of_getElem? (i := 107) (by decide +kernel)))
      · exact (hfl _ (List.mem_of_getElem? (i := 108) (by decide +kernel)))
      · exact (hfl _ (List.mem_of_getElem? (i := 109) (by decide +kernel)))
    · have hj : j < 4 := hj
      rcases (show j = 0 ∨ j = 1 ∨ j = 2 ∨ j = 3 by omega) with rfl | rfl | rfl | rfl
      · exact (hfl _ (List.mem_of_getElem? (i := 119) (by decide +kernel)))
      · exact (hfl _ (List.mem_of_getElem? (i := 120) (by decide +kernel)))
      · exact (hfl _ (List.mem_of_getElem? (i := 121) (by decide +kernel)))
      · exact (hfl _ (List.mem_of_getElem? (i := 122) (by decide +kernel)))
  have hne : ∀ i j : Nat, i < 7 → j < 7 → i ≠ j → (Cond.not (Cond.eq (.string "GrainWaves$Script" (69 + 2 * i)) (.string "GrainWaves$Script" (69 + 2 * j)))).before args s = true ∨ (Cond.not (Cond.eq (.string "GrainWaves$Script" (69 + 2 * j)) (.string "GrainWaves$Script" (69 + 2 * i)))).before args s = true := by
    intro i j hi hj hij
    rcases (show i = 0 ∨ i = 1 ∨ i = 2 ∨ i = 3 ∨ i = 4 ∨ i = 5 ∨ i = 6 by omega) with rfl | rfl | rfl | rfl | rfl | rfl | rfl
    · rcases (show j = 0 ∨ j = 1 ∨ j = 2 ∨ j = 3 ∨ j = 4 ∨ j = 5 ∨ j = 6 by omega) with rfl | rfl | rfl | rfl | rfl | rfl | rfl
      · exact absurd rfl hij
      · exact Or.inl (hfl _ (List.mem_of_getElem? (i := 71) (by decide +kernel)))
      · exact Or.inl (hfl _ (List.mem_of_getElem? (i := 79) (by decide +kernel)))
      · exact Or.inl (hfl _ (List.mem_of_getElem? (i := 89) (by decide +kernel)))
      · exact Or.inl (hfl _ (List.mem_of_getElem? (i := 99) (by decide +kernel)))
      · exact Or.inl (hfl _ (List.mem_of_getElem? (i := 110) (by decide +kernel)))
      · exact Or.inl (hfl _ (List.mem_of_getElem? (i := 123) (by decide +kernel)))
    · rcases (show j = 0 ∨ j = 1 ∨ j = 2 ∨ j = 3 ∨ j = 4 ∨ j = 5 ∨ j = 6 by omega) with rfl | rfl | rfl | rfl | rfl | rfl | rfl
      · exact Or.inr (hfl _ (List.mem_of_getElem? (i := 71) (by decide +kernel)))
      · exact absurd rfl hij
      · exact Or.inl (hfl _ (List.mem_of_getElem? (i := 80) (by decide +kernel)))
      · exact Or.inl (hfl _ (List.mem_of_getElem? (i := 90) (by decide +kernel)))
      · exact Or.inl (hfl _ (List.mem_of_getElem? (i := 100) (by decide +kernel)))
      · exact Or.inl (hfl _ (List.mem_of_getElem? (i := 111) (by decide +kernel)))
      · exact Or.inl (hfl _ (List.mem_of_getElem? (i := 124) (by decide +kernel)))
    · rcases (show j = 0 ∨ j = 1 ∨ j = 2 ∨ j = 3 ∨ j = 4 ∨ j = 5 ∨ j = 6 by omega) with rfl | rfl | rfl | rfl | rfl | rfl | rfl
      · exact Or.inr (hfl _ (List.mem_of_getElem? (i := 79) (by decide +kernel)))
      · exact Or.inr (hfl _ (List.mem_of_getElem? (i := 80) (by decide +kernel)))
      · exact absurd rfl hij
      · exact Or.inl (hfl _ (List.mem_of_getElem? (i := 91) (by decide +kernel)))
      · exact Or.inl (hfl _ (List.mem_of_getElem? (i := 101) (by decide +kernel)))
      · exact Or.inl (hfl _ (List.mem_of_getElem? (i := 112) (by decide +kernel)))
      · exact Or.inl (hfl _ (List.mem_of_getElem? (i := 125) (by decide +kernel)))
    · rcases (show j = 0 ∨ j = 1 ∨ j = 2 ∨ j = 3 ∨ j = 4 ∨ j = 5 ∨ j = 6 by omega) with rfl | rfl | rfl | rfl | rfl | rfl | rfl
      · exact Or.inr (hfl _ (List.mem_of_getElem? (i := 89) (by decide +kernel)))
      · exact Or.inr (hfl _ (List.mem_of_getElem? (i := 90) (by decide +kernel)))
      · exact Or.inr (hfl _ (List.mem_of_getElem? (i := 91) (by decide +kernel)))
      · exact absurd rfl hij
      · exact Or.inl (hfl _ (List.mem_of_getElem? (i := 102) (by decide +kernel)))
      · exact Or.inl (hfl _ (List.mem_of_getElem? (i := 113) (by decide +kernel)))
      · exact Or.inl (hfl _ (List.mem_of_getElem? (i := 126) (by decide +kernel)))
    · rcases (show j = 0 ∨ j = 1 ∨ j = 2 ∨ j = 3 ∨ j = 4 ∨ j = 5 ∨ j = 6 by omega) with rfl | rfl | rfl | rfl | rfl | rfl | rfl
      · exact Or.inr (hfl _ (List.mem_of_getElem? (i := 99) (by decide +kernel)))
      · exact Or.inr (hfl _ (List.mem_of_getElem? (i := 100) (by decide +kernel)))
      · exact Or.inr (hfl _ (List.mem_of_getElem? (i := 101) (by decide +kernel)))
      · exact Or.inr (hfl _ (List.mem_of_getElem? (i := 102) (by decide +kernel)))
      · exact absurd rfl hij
      · exact Or.inl (hfl _ (List.mem_of_getElem? (i := 114) (by decide +kernel)))
      · exact Or.inl (hfl _ (List.mem_of_getElem? (i := 127) (by decide +kernel)))
    · rcases (show j = 0 ∨ j = 1 ∨ j = 2 ∨ j = 3 ∨ j = 4 ∨ j = 5 ∨ j = 6 by omega) with rfl | rfl | rfl | rfl | rfl | rfl | rfl
      · exact Or.inr (hfl _ (List.mem_of_getElem? (i := 110) (by decide +kernel)))
      · exact Or.inr (hfl _ (List.mem_of_getElem? (i := 111) (by decide +kernel)))
      · exact Or.inr (hfl _ (List.mem_of_getElem? (i := 112) (by decide +kernel)))
      · exact Or.inr (hfl _ (List.mem_of_getElem? (i := 113) (by decide +kernel)))
      · exact Or.inr (hfl _ (List.mem_of_getElem? (i := 114) (by decide +kernel)))
      · exact absurd rfl hij
      · exact Or.inl (hfl _ (List.mem_of_getElem? (i := 128) (by decide +kernel)))
    · rcases (show j = 0 ∨ j = 1 ∨ j = 2 ∨ j = 3 ∨ j = 4 ∨ j = 5 ∨ j = 6 by omega) with rfl | rfl | rfl | rfl | rfl | rfl | rfl
      · exact Or.inr (hfl _ (List.mem_of_getElem? (i := 123) (by decide +kernel)))
      · exact Or.inr (hfl _ (List.mem_of_getElem? (i := 124) (by decide +kernel)))
      · exact Or.inr (hfl _ (List.mem_of_getElem? (i := 125) (by decide +kernel)))
      · exact Or.inr (hfl _ (List.mem_of_getElem? (i := 126) (by decide +kernel)))
      · exact Or.inr (hfl _ (List.mem_of_getElem? (i := 127) (by decide +kernel)))
      · exact Or.inr (hfl _ (List.mem_of_getElem? (i := 128) (by decide +kernel)))
      · exact absurd rfl hij
  obtain ⟨adK, adV, hS, hE⟩ := vk_Sof (args := args) (s := s) (N := 7) (tm := fun i => .string "GrainWaves$Script" (69 + 2 * i)) (len := gLen) (byt := gByt) (A := A) (fun i hi => by rcases (show i = 0 ∨ i = 1 ∨ i = 2 ∨ i = 3 ∨ i = 4 ∨ i = 5 ∨ i = 6 by omega) with rfl | rfl | rfl | rfl | rfl | rfl | rfl <;> decide) hex hco har hle hel hne hA
  have key : ∀ fv : Value, fv.category = 1 → va_Z "jdk/internal/util/Preconditions" "SIOOBE_FORMATTER" "Ljava/util/function/BiFunction;" fv A s s.heap → ∃ (st adK adV : Nat → Nat) (fv : Value), fv.category = 1 ∧ gStX st adK adV fv A s s.heap := by
    intro fv hc hZ
    refine ⟨fun f => if f = 40 then t40 else if f = 41 then t41 else if f = 42 then t42 else if f = 43 then t43 else if f = 44 then t44 else if f = 45 then t45 else t46, adK, adV, fv, hc, ?_, ZC, hZ, hS, ?_, ls_nw hts⟩
    · unfold gSL
      exact (List.forall_mem_cons.mpr ⟨⟨Z40, T40⟩, (List.forall_mem_cons.mpr ⟨⟨Z41, T41⟩, (List.forall_mem_cons.mpr ⟨⟨Z42, T42⟩, (List.forall_mem_cons.mpr ⟨⟨Z43, T43⟩, (List.forall_mem_cons.mpr ⟨⟨Z44, T44⟩, (List.forall_mem_cons.mpr ⟨⟨Z45, T45⟩, (List.forall_mem_cons.mpr ⟨⟨Z46, T46⟩, (fun _ h => absurd h List.not_mem_nil)⟩)⟩)⟩)⟩)⟩)⟩)⟩)
    · unfold gSRL
      have hR0 : vk_R "GrainWaves$Script" 69 "point" (adK 0) s := vk_R.of (A := args) (hts (.stringRef "GrainWaves$Script" (69 : Nat) "point") (List.mem_of_getElem? (i := 381) (by decide +kernel))) (hE 0 (by decide))
      have hR1 : vk_R "GrainWaves$Script" 71 "plane" (adK 1) s := vk_R.of (A := args) (hts (.stringRef "GrainWaves$Script" (71 : Nat) "plane") (List.mem_of_getElem? (i := 382) (by decide +kernel))) (hE 1 (by decide))
      have hR2 : vk_R "GrainWaves$Script" 73 "dim" (adK 2) s := vk_R.of (A := args) (hts (.stringRef "GrainWaves$Script" (73 : Nat) "dim") (List.mem_of_getElem? (i := 383) (by decide +kernel))) (hE 2 (by decide))
      have hR3 : vk_R "GrainWaves$Script" 75 "turn" (adK 3) s := vk_R.of (A := args) (hts (.stringRef "GrainWaves$Script" (75 : Nat) "turn") (List.mem_of_getElem? (i := 384) (by decide +kernel))) (hE 3 (by decide))
      have hR4 : vk_R "GrainWaves$Script" 77 "add" (adK 4) s := vk_R.of (A := args) (hts (.stringRef "GrainWaves$Script" (77 : Nat) "add") (List.mem_of_getElem? (i := 385) (by decide +kernel))) (hE 4 (by decide))
      have hR5 : vk_R "GrainWaves$Script" 79 "way" (adK 5) s := vk_R.of (A := args) (hts (.stringRef "GrainWaves$Script" (79 : Nat) "way") (List.mem_of_getElem? (i := 386) (by decide +kernel))) (hE 5 (by decide))
      have hR6 : vk_R "GrainWaves$Script" 81 "wipe" (adK 6) s := vk_R.of (A := args) (hts (.stringRef "GrainWaves$Script" (81 : Nat) "wipe") (List.mem_of_getElem? (i := 387) (by decide +kernel))) (hE 6 (by decide))
      exact (List.forall_mem_cons.mpr ⟨hR0, (List.forall_mem_cons.mpr ⟨hR1, (List.forall_mem_cons.mpr ⟨hR2, (List.forall_mem_cons.mpr ⟨hR3, (List.forall_mem_cons.mpr ⟨hR4, (List.forall_mem_cons.mpr ⟨hR5, (List.forall_mem_cons.mpr ⟨hR6, (fun _ h => absurd h List.not_mem_nil)⟩)⟩)⟩)⟩)⟩)⟩)⟩)
  rcases ZF with h | ⟨t, h⟩
  · exact key .null rfl h
  · exact key (.ref t) rfl h
end ENTRY
