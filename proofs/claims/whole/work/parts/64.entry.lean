/-! THE LAW'S ENTRY: classes, array classes, statics, texts -/
section ENTRY
variable {s : State} {args : Array Value}
theorem ls_D (hts : ∀ w ∈ gWs, w.before args s = true) : ∃ D : va_G, ∀ (k : Nat) (q : vw_C), gCl[k]? = some q → u_Kn s q.1 q.2.1 q.2.2 (D.1 k) (D.2 k) := by
  have h0 : ∀ k : Nat, ∃ z : ClassId × (Nat → Nat), ∀ q : vw_C, gCl[k]? = some q → u_Kn s q.1 q.2.1 q.2.2 z.1 z.2 := by
    intro k
    match k with
    | 0 =>
      obtain ⟨cC, iS, h⟩ := u_known (C := RX0) (T := TX0) (N := 2) (n := 2) hts gclk0.2.2.1 (hts _ (gin_ok (p := 169) (by decide +kernel)))
      exact ⟨(cC, iS), fun q hq => by cases hq; exact h⟩
    | 1 =>
      obtain ⟨cC, iS, h⟩ := u_known (C := RX1) (T := TX1) (N := 2) (n := 2) hts gclk1.2.2.1 (hts _ (gin_ok (p := 68) (by decide +kernel)))
      exact ⟨(cC, iS), fun q hq => by cases hq; exact h⟩
    | 2 =>
      obtain ⟨cC, iS, h⟩ := u_known (C := RX2) (T := TX2) (N := 3) (n := 3) hts gclk2.2.2.1 (hts _ (gin_ok (p := 153) (by decide +kernel)))
      exact ⟨(cC, iS), fun q hq => by cases hq; exact h⟩
    | 3 =>
      obtain ⟨cC, iS, h⟩ := u_known (C := RX3) (T := TX3) (N := 3) (n := 3) hts gclk3.2.2.1 (hts _ (gin_ok (p := 219) (by decide +kernel)))
      exact ⟨(cC, iS), fun q hq => by cases hq; exact h⟩
    | 4 =>
      obtain ⟨cC, iS, h⟩ := u_known (C := RX4) (T := TX4) (N := 2) (n := 2) hts gclk4.2.2.1 (hts _ (gin_ok (p := 140) (by decide +kernel)))
      exact ⟨(cC, iS), fun q hq => by cases hq; exact h⟩
    | 5 =>
      obtain ⟨cC, iS, h⟩ := u_known (C := RX5) (T := TX5) (N := 5) (n := 5) hts gclk5.2.2.1 (hts _ (gin_ok (p := 112) (by decide +kernel)))
      exact ⟨(cC, iS), fun q hq => by cases hq; exact h⟩
    | 6 =>
      obtain ⟨cC, iS, h⟩ := u_known (C := RX6) (T := TX6) (N := 3) (n := 3) hts gclk6.2.2.1 (hts _ (gin_ok (p := 183) (by decide +kernel)))
      exact ⟨(cC, iS), fun q hq => by cases hq; exact h⟩
    | 7 =>
      obtain ⟨cC, iS, h⟩ := u_known (C := RX7) (T := TX7) (N := 6) (n := 6) hts gclk7.2.2.1 (hts _ (gin_ok (p := 82) (by decide +kernel)))
      exact ⟨(cC, iS), fun q hq => by cases hq; exact h⟩
    | 8 =>
      obtain ⟨cC, iS, h⟩ := u_known (C := RX8) (T := TX8) (N := 2) (n := 2) hts gclk8.2.2.1 (hts _ (gin_ok (p := 201) (by decide +kernel)))
      exact ⟨(cC, iS), fun q hq => by cases hq; exact h⟩
    | 9 =>
      obtain ⟨cC, iS, h⟩ := u_known (C := RX9) (T := TX9) (N := 11) (n := 11) hts gclk9.2.2.1 (hts _ (gin_ok (p := 54) (by decide +kernel)))
      exact ⟨(cC, iS), fun q hq => by cases hq; exact h⟩
    | 10 =>
      obtain ⟨cC, iS, h⟩ := u_known (C := RX10) (T := TX10) (N := 25) (n := 25) hts gclk10.2.2.1 (hts _ (gin_ok (p := 833) (by decide +kernel)))
      exact ⟨(cC, iS), fun q hq => by cases hq; exact h⟩
    | k + 11 => exact ⟨(0, fun _ => 0), fun q hq => by simp [gCl] at hq⟩
  obtain ⟨f, hf⟩ := Classical.axiomOfChoice h0
  exact ⟨(fun k => (f k).1, fun k => (f k).2), fun k q hq => hf k q hq⟩
theorem ls_arr {ty : FieldType} (h : (Cond.arrayClass ty).before args s = true) : ∃ cA : ClassId, ArrOfT s cA ty ∧ s.vm.findClass ("[" ++ ty.toString) = some cA := by
  obtain ⟨cA, kA, comp, hfind, hk, hkind⟩ := Cond.arrayClass_spec h
  exact ⟨cA, fun N z => ⟨(fun k h => by cases h), kA, hk, comp, hkind⟩, hfind⟩
theorem ls_arrq {C : String} (h : va_AO C s) : ∃ cA : ClassId, ArrOfT s cA (.object C) ∧ va_RA s cA (.object C) := by
  obtain ⟨comp, c, k, h1, h2, h3, h4, h5⟩ := Cond.arrayOver_spec h
  exact ⟨c, fun N z => ⟨(fun k h => by cases h), k, h3, comp, h4⟩, k, comp, h3, h4, h1, h5⟩
theorem ls_K (hts : ∀ w ∈ gWs, w.before args s = true) (h6 : va_AO RX6 s) (h8 : va_AO RX8 s) (h3 : va_AO RX3 s) : ∃ (D : va_G) (K : Nat → ClassId), va_K D gCl (cT K) s := by
  obtain ⟨D, hD⟩ := ls_D hts
  obtain ⟨k0, a0, f0⟩ := ls_arr (hts (.arrayClass .int) (gin_ok (p := 138) (by decide +kernel)))
  obtain ⟨k1, a1, f1⟩ := ls_arr (hts (.arrayClass .byte) (gin_ok (p := 110) (by decide +kernel)))
  obtain ⟨k2, a2, f2⟩ := ls_arr (hts (.arrayClass .long) (gin_ok (p := 80) (by decide +kernel)))
  obtain ⟨k3, a3, f3⟩ := ls_arrq h6
  obtain ⟨k4, a4, f4⟩ := ls_arrq h8
  obtain ⟨k5, a5, f5⟩ := ls_arrq h3
  refine ⟨D, fun k => if k = 0 then k0 else if k = 1 then k1 else if k = 2 then k2 else if k = 3 then k3 else if k = 4 then k4 else k5, hD, fun k q hk => ?_⟩
  match k, hk with
  | 0, hk => cases hk; exact ⟨a0, f0⟩
  | 1, hk => cases hk; exact ⟨a1, f1⟩
  | 2, hk => cases hk; exact ⟨a2, f2⟩
  | 3, hk => cases hk; exact ⟨a3, f3⟩
  | 4, hk => cases hk; exact ⟨a4, f4⟩
  | 5, hk => cases hk; exact ⟨a5, f5⟩
  | k + 6, hk => simp [cT] at hk
set_option maxRecDepth 100000 in
theorem ls_nest (hts : ∀ w ∈ lw_tbl, w.before args s = true) : cNest s := by
  refine ⟨?_, va_AO.of (A := args) (hts (.arrayOver (.object RX6)) (List.mem_of_getElem? (i := 62) (by decide +kernel))), va_AO.of (A := args) (hts (.arrayOver (.object RX8)) (List.mem_of_getElem? (i := 64) (by decide +kernel))), va_AO.of (A := args) (hts (.arrayOver (.object RX3)) (List.mem_of_getElem? (i := 66) (by decide +kernel)))⟩
  unfold cNL
  exact (List.forall_mem_cons.mpr ⟨va_Nw.of rfl (hts _ (List.mem_of_getElem? (i := 69) (by decide +kernel))), (List.forall_mem_cons.mpr ⟨va_Nw.of rfl (hts _ (List.mem_of_getElem? (i := 83) (by decide +kernel))), (List.forall_mem_cons.mpr ⟨va_Nw.of rfl (hts _ (List.mem_of_getElem? (i := 113) (by decide +kernel))), (List.forall_mem_cons.mpr ⟨va_Nw.of rfl (hts _ (List.mem_of_getElem? (i := 141) (by decide +kernel))), (List.forall_mem_cons.mpr ⟨va_Nw.of rfl (hts _ (List.mem_of_getElem? (i := 154) (by decide +kernel))), (List.forall_mem_cons.mpr ⟨va_Nw.of rfl (hts _ (List.mem_of_getElem? (i := 170) (by decide +kernel))), (List.forall_mem_cons.mpr ⟨va_Nw.of rfl (hts _ (List.mem_of_getElem? (i := 184) (by decide +kernel))), (List.forall_mem_cons.mpr ⟨va_Nw.of rfl (hts _ (List.mem_of_getElem? (i := 202) (by decide +kernel))), (List.forall_mem_cons.mpr ⟨va_Nw.of rfl (hts _ (List.mem_of_getElem? (i := 220) (by decide +kernel))), (fun _ h => absurd h List.not_mem_nil)⟩)⟩)⟩)⟩)⟩)⟩)⟩)⟩)⟩)
def ls_nl : List (Nat × Nat × Nat × gMY × List Nat) := (List.range 20).flatMap (fun o => ((gIL o).filter (fun e => e.2.1 == 2)).map (fun e => (o, e.1, e.2.2.2.2.getD 0 0, e.2.2.2.1, [])))
set_option maxRecDepth 100000 in
theorem ls_nlok : ls_nl.all (fun z => decide (lw_tbl[z.2.2.1]? = some (.methodLinkNest (gcn z.1) z.2.1 z.2.2.2.1.1 "GrainWaves"))) = true := by decide +kernel
theorem ls_nw (hts : ∀ w ∈ lw_tbl, w.before args s = true) : ∀ (o : Nat), ∀ e ∈ gIL o, e.2.1 = 2 → va_Nw (.methodLinkNest (gcn o) e.1 e.2.2.2.1.1 "GrainWaves") s := by
  intro o e he h2
  have ho : o < 20 := by
    by_cases h : o < 20
    · exact h
    · exfalso
      have hz : gIL o = [] := by
        match o, h with
        | n + 20, _ => rfl
      rw [hz] at he
      exact List.not_mem_nil he
  have hm : (o, e.1, e.2.2.2.2.getD 0 0, e.2.2.2.1, []) ∈ ls_nl := List.mem_flatMap.mpr ⟨o, List.mem_range.mpr ho, List.mem_map.mpr ⟨e, List.mem_filter.mpr ⟨he, by rw [h2]; rfl⟩, rfl⟩⟩
  have hk := of_decide_eq_true (List.all_eq_true.mp ls_nlok _ hm)
  exact va_Nw.of rfl (hts _ (List.mem_of_getElem? hk))

end ENTRY
