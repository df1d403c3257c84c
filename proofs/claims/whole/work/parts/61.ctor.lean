/-! CONSTRUCTORS of the nested classes and of the model -/
def cT (K : Nat → ClassId) : List (ClassId × FieldType) := [(K 0, .int), (K 1, .byte), (K 2, .long), (K 3, .object RX6), (K 4, .object RX8), (K 5, .object RX3)]
def cPre (D : va_G) (K : Nat → ClassId) (ws : va_W) (sz : Nat) (U : State) : Prop := U.heap.size = sz ∧ va_P D gCl ws U.heap ∧ va_K D gCl (cT K) U
theorem va_D1 {A : Nat → Prop} {a : Nat} {e : va_E} (h : A a) : va_D A [(a, e)] := by
  refine ⟨fun i j p q hi hj _ => ?_, fun k q hk => ?_⟩
  · have h1 := (List.getElem?_eq_some_iff.mp hi).1
    have h2 := (List.getElem?_eq_some_iff.mp hj).1
    rw [List.length_singleton] at h1 h2
    omega
  · have h1 := (List.getElem?_eq_some_iff.mp hk).1
    rw [List.length_singleton] at h1
    have hz : k = 0 := by omega
    subst hz
    cases hk
    exact h
section CTOR
variable {p : Program} {l : Launch} {e : Env} {R : Room} {s : State} {m : MethodId} {args : Array Value} {below : List Frame} {meth : Method} {c : Code} {H : Heap} {locs : List Loc} {cells slots : Nat} {Q : State → Prop}
variable {cc : ByteArray} {pc : Nat} {ls : Array Slot} {rest : List Value} {D : va_G} {cl : List vw_C} {A : Nat → Prop} {a : Nat} {tys : List (ClassId × FieldType)} {ws : va_W} {H0 : Heap}
theorem cn_newa (hexec : p.tables.exec = Jvm.exec) (hb : c.code = cc) {atype : ArrayType} (harr : (Cond.arrayClass (newarray.typeOf atype)).before args s = true) {ty : FieldType} (hty : newarray.typeOf atype = ty) (hK : va_K D cl tys s) (hP : va_P D cl ws H) (hD : va_D A ws) (hS : va_S A H0 H locs) (hA : ∀ q, H0.size ≤ q → A q) (t0 : Nat) {cA0 : ClassId} (ht : tys[t0]? = some (cA0, ty)) (hra : ∀ cA, va_RA s cA ty → s.vm.findClass ("[" ++ ty.toString) = some cA)
    {n : Int32} {N' : Nat} {a0 : vp_A} (ha : ∀ cA : ClassId, vp_cell cA a0 = arrV cA N' (fun _ => defaultValue ty)) (hn : ¬ n < 0) (hN : n.toNatClampNeg = N') (hbytes : N' * componentBytes ty ≤ 536870912) (hcells : cells + 1 ≤ R.cells) (hslots : slots + N' ≤ R.slots) (hdg : decode cc pc = .ok (.newarray atype, 2))
    (kk : ∀ (q : Nat) (H1 : Heap), va_P D cl (ws ++ [(q, .inl (cA0, a0))]) H1 → va_D A (ws ++ [(q, .inl (cA0, a0))]) → va_S A H0 H1 locs → W p l e R s m args below meth c H1 locs (cells + 1) (slots + N') Q (F0 m (pc + 2) ls (.ref q :: rest))) : W p l e R s m args below meth c H locs cells slots Q (F0 m pc ls (.int n :: rest)) := by
  refine va_newa hexec hb harr hty hK hP hD hS hA ha hn hN hbytes hcells hslots hdg (fun q cA H1 hK1 hP1 hD1 hS1 => ?_)
  have e : cA = cA0 := by
    have h1 := (hK1.2 tys.length (cA, ty) (by rw [List.getElem?_append_right (Nat.le_refl _), Nat.sub_self]; rfl)).2
    have h2 := (hK.2 t0 _ ht).2
    exact Option.some.inj ((hra cA h1).symm.trans (hra cA0 h2))
  subst e
  exact kk q H1 hP1 hD1 hS1
end CTOR
theorem dX0_init_0 : decode cX0_init 0 = .ok (.aload_n 0, 1) := by decide +kernel
theorem dX0_init_1 : decode cX0_init 1 = .ok (.invokespecial 3, 3) := by decide +kernel
theorem dX0_init_4 : decode cX0_init 4 = .ok (.aload_n 0, 1) := by decide +kernel
theorem dX0_init_5 : decode cX0_init 5 = .ok (.bipush 16, 2) := by decide +kernel
theorem dX0_init_7 : decode cX0_init 7 = .ok (.newarray .int, 2) := by decide +kernel
theorem dX0_init_9 : decode cX0_init 9 = .ok (.putfield 11, 3) := by decide +kernel
theorem dX0_init_12 : decode cX0_init 12 = .ok (.aload_n 0, 1) := by decide +kernel
theorem dX0_init_13 : decode cX0_init 13 = .ok (.iconst 0, 1) := by decide +kernel
theorem dX0_init_14 : decode cX0_init 14 = .ok (.putfield 15, 3) := by decide +kernel
theorem dX0_init_17 : decode cX0_init 17 = .ok (.return_, 1) := by decide +kernel
def cwX0 (K : Nat → ClassId) (h0 : Nat) (u : List Nat) : va_W := [(h0, .inr (0, [.ref (u.getD 0 0), .int 0])), ((u.getD 0 0), .inl (K 0, 16, .inl (fun _ => 0)))]
abbrev ciX0 (h0 : Nat) : va_W := [(h0, .inr (0, [.null, .int 0]))]
set_option maxHeartbeats 4000000 in
set_option maxRecDepth 100000 in
theorem c_X0_init (l : Launch) (D : va_G) (K : Nat → ClassId) (h0 sz : Nat) : Met l yX0_init (gws myX0_init) { frames := 1, cells := 1, slots := 16, locals := 12 } (va_Pc [.ref h0] (cPre D K (ciX0 h0) sz)) (va_Qv (fun _ : List Nat => True) (fun u t => va_P D gCl (cwX0 K h0 u) t.heap ∧ va_D (va_A (ciX0 h0) sz) (cwX0 K h0 u)) (va_A (ciX0 h0) sz)) 1 16 (va_A (ciX0 h0) sz) := by
  refine gMet_ofW (cc := cX0_init) (maxL := 1) (ret := none) (by decide) rfl ?_
  intro p e s m args below meth c s₁ B hml hv
  obtain ⟨rfl, hsz, hP, hK⟩ := hv
  have hx := B.exec
  have hb := B.bytes
  have hr := B.returns
  have hts0 := atoms_spec (ws := gws myX0_init) B.pre
  have hts : ∀ w ∈ gWs, w.before #[Value.ref h0] s = true := fun w hw => hts0 w (List.mem_cons_of_mem _ hw)
  have hown : s.vm.findClass RX0 = some m.cls := findClass_of_methodNamed B.named
  have hlk := B.notSynchronized
  have hin : meth.name = "<init>" := (name_of_methodNamed B.named B.method).1
  subst hsz
  have hD : va_D (va_A (ciX0 h0) s.heap.size) (ciX0 h0) := va_D.self (A := fun _ => True) (va_D1 trivial)
  generalize hAe : va_A (ciX0 h0) s.heap.size = A at hD ⊢
  have hA : ∀ q : Nat, s.heap.size ≤ q → A q := fun q h => by rw [← hAe]; exact Or.inr h
  have hS : va_S A s.heap s.heap [] := va_S.rf
  have hl := lv_entry ([.ref h0]) (n := 1) (Nat.le_of_ble_eq_true rfl)
  show W p l e _ s m _ below meth c s.heap [] 0 0 _ (entryFrame m ([Value.ref h0] : List Value).toArray 1)
  rw [lg_entry_eq]
  generalize (lg_sl ([.ref h0]) ++ List.replicate (1 - (lg_sl ([.ref h0])).length) Slot.unset).toArray = ls at hl ⊢
  have hl : lv_has ls 1 [(0, .ref h0)] := hl
  have hP : va_P D gCl [(h0, .inr (0, [.null, .int 0]))] s.heap := hP
  have hD : va_D A [(h0, .inr (0, [.null, .int 0]))] := hD
  refine lv_aload_n hx hb dX0_init_0 rfl (lv_at hl 0 rfl) ?_
  refine W.objInit hx hb hown (hts _ (gin_ok (p := 173) (by decide +kernel))) (hts _ (gin_ok (p := 59) (by decide +kernel))) (hts _ (gin_ok (p := 60) (by decide +kernel))) rfl (by rw [hml]; exact hl.1) rfl dX0_init_1 (Nat.le_of_ble_eq_true rfl) (Nat.le_of_ble_eq_true rfl) ?_
  refine W.eq (g2 := F0 m 4 ls []) rfl ?_
  refine lv_aload_n hx hb dX0_init_4 rfl (lv_at hl 0 rfl) ?_
  refine lv_bipush (v := 16) hx hb dX0_init_5 (by decide) ?_
  refine cn_newa (atype := .int) (ty := .int) hx hb (hts _ (gin_ok (p := 138) (by decide +kernel))) rfl hK hP hD hS hA 0 (cA0 := K 0) rfl (fun _ h => h) (N' := 16) (a0 := (16, .inl (fun _ => 0))) (fun _ => rfl) (by decide) (by decide) (Nat.le_of_ble_eq_true rfl) (Nat.le_of_ble_eq_true rfl) (Nat.le_of_ble_eq_true rfl) dX0_init_7 (fun q1 H hP hD hS => ?_)
  have hP : va_P D gCl [(h0, .inr (0, [.null, .int 0])), (q1, .inl (K 0, 16, .inl (fun _ => 0)))] H := hP
  have hD : va_D A [(h0, .inr (0, [.null, .int 0])), (q1, .inl (K 0, 16, .inl (fun _ => 0)))] := hD
  refine va_putF (D := D) (ci := 0) (ty := tyX0 0) (C := RX0) (T := TX0) (N := 2) hx hb hts gclk0.2.2.1 tyX0 gclk0.2.2.2.1 gclk0.2.2.2.2.1 hown hK hP hD hS 0 rfl rfl 0 (by decide) (hts _ (gin_ok (p := 174) (by decide +kernel))) (fun _ h9 => h9) rfl hin rfl (v := .ref q1) (gclk0.2.2.2.1 0 (by decide)) rfl rfl (Nat.le_of_ble_eq_true rfl) dX0_init_9 (fun H locs hP hD hS => ?_)
  have hP : va_P D gCl [(h0, .inr (0, [.ref q1, .int 0])), (q1, .inl (K 0, 16, .inl (fun _ => 0)))] H := hP
  have hD : va_D A [(h0, .inr (0, [.ref q1, .int 0])), (q1, .inl (K 0, 16, .inl (fun _ => 0)))] := hD
  refine lv_aload_n hx hb dX0_init_12 rfl (lv_at hl 0 rfl) ?_
  refine lv_iconst (v := 0) hx hb dX0_init_13 (by decide) ?_
  refine va_put (D := D) (ci := 0) (ty := tyX0 1) (C := RX0) (T := TX0) (N := 2) hx hb hts gclk0.2.2.1 tyX0 gclk0.2.2.2.1 gclk0.2.2.2.2.1 hown hK hP hD hS 0 rfl rfl 1 (by decide) (hts _ (gin_ok (p := 176) (by decide +kernel))) (fun _ h9 => h9) rfl (v := .int 0) (gclk0.2.2.2.1 1 (by decide)) rfl rfl (Nat.le_of_ble_eq_true rfl) dX0_init_14 (fun H locs hP hD hS => ?_)
  have hP : va_P D gCl [(h0, .inr (0, [.ref q1, .int 0])), (q1, .inl (K 0, 16, .inl (fun _ => 0)))] H := hP
  have hD : va_D A [(h0, .inr (0, [.ref q1, .int 0])), (q1, .inl (K 0, 16, .inl (fun _ => 0)))] := hD
  refine W.widen (k := 1) (n := 16) (by omega) (by omega) ?_
  exact W.vret hx hb hr (fun t ht hW => ⟨⟨[q1], rfl, trivial, by rw [ht]; exact hP, hD⟩, hS.F ht⟩) hS.2.2 dX0_init_17 hlk
theorem dX1_init_0 : decode cX1_init 0 = .ok (.aload_n 0, 1) := by decide +kernel
theorem dX1_init_1 : decode cX1_init 1 = .ok (.invokespecial 3, 3) := by decide +kernel
theorem dX1_init_4 : decode cX1_init 4 = .ok (.aload_n 0, 1) := by decide +kernel
theorem dX1_init_5 : decode cX1_init 5 = .ok (.bipush 16, 2) := by decide +kernel
theorem dX1_init_7 : decode cX1_init 7 = .ok (.newarray .long, 2) := by decide +kernel
theorem dX1_init_9 : decode cX1_init 9 = .ok (.putfield 9, 3) := by decide +kernel
theorem dX1_init_12 : decode cX1_init 12 = .ok (.aload_n 0, 1) := by decide +kernel
theorem dX1_init_13 : decode cX1_init 13 = .ok (.bipush 16, 2) := by decide +kernel
theorem dX1_init_15 : decode cX1_init 15 = .ok (.newarray .long, 2) := by decide +kernel
theorem dX1_init_17 : decode cX1_init 17 = .ok (.putfield 15, 3) := by decide +kernel
theorem dX1_init_20 : decode cX1_init 20 = .ok (.return_, 1) := by decide +kernel
def cwX1 (K : Nat → ClassId) (h0 : Nat) (u : List Nat) : va_W := [(h0, .inr (1, [.ref (u.getD 0 0), .ref (u.getD 1 0)])), ((u.getD 0 0), .inl (K 2, 16, .inr (.inl (fun _ => 0)))), ((u.getD 1 0), .inl (K 2, 16, .inr (.inl (fun _ => 0))))]
abbrev ciX1 (h0 : Nat) : va_W := [(h0, .inr (1, [.null, .null]))]
set_option maxHeartbeats 4000000 in
set_option maxRecDepth 100000 in
theorem c_X1_init (l : Launch) (D : va_G) (K : Nat → ClassId) (h0 sz : Nat) : Met l yX1_init (gws myX1_init) { frames := 1, cells := 2, slots := 32, locals := 12 } (va_Pc [.ref h0] (cPre D K (ciX1 h0) sz)) (va_Qv (fun _ : List Nat => True) (fun u t => va_P D gCl (cwX1 K h0 u) t.heap ∧ va_D (va_A (ciX1 h0) sz) (cwX1 K h0 u)) (va_A (ciX1 h0) sz)) 2 32 (va_A (ciX1 h0) sz) := by
  refine gMet_ofW (cc := cX1_init) (maxL := 1) (ret := none) (by decide) rfl ?_
  intro p e s m args below meth c s₁ B hml hv
  obtain ⟨rfl, hsz, hP, hK⟩ := hv
  have hx := B.exec
  have hb := B.bytes
  have hr := B.returns
  have hts0 := atoms_spec (ws := gws myX1_init) B.pre
  have hts : ∀ w ∈ gWs, w.before #[Value.ref h0] s = true := fun w hw => hts0 w (List.mem_cons_of_mem _ hw)
  have hown : s.vm.findClass RX1 = some m.cls := findClass_of_methodNamed B.named
  have hlk := B.notSynchronized
  have hin : meth.name = "<init>" := (name_of_methodNamed B.named B.method).1
  subst hsz
  have hD : va_D (va_A (ciX1 h0) s.heap.size) (ciX1 h0) := va_D.self (A := fun _ => True) (va_D1 trivial)
  generalize hAe : va_A (ciX1 h0) s.heap.size = A at hD ⊢
  have hA : ∀ q : Nat, s.heap.size ≤ q → A q := fun q h => by rw [← hAe]; exact Or.inr h
  have hS : va_S A s.heap s.heap [] := va_S.rf
  have hl := lv_entry ([.ref h0]) (n := 1) (Nat.le_of_ble_eq_true rfl)
  show W p l e _ s m _ below meth c s.heap [] 0 0 _ (entryFrame m ([Value.ref h0] : List Value).toArray 1)
  rw [lg_entry_eq]
  generalize (lg_sl ([.ref h0]) ++ List.replicate (1 - (lg_sl ([.ref h0])).length) Slot.unset).toArray = ls at hl ⊢
  have hl : lv_has ls 1 [(0, .ref h0)] := hl
  have hP : va_P D gCl [(h0, .inr (1, [.null, .null]))] s.heap := hP
  have hD : va_D A [(h0, .inr (1, [.null, .null]))] := hD
  refine lv_aload_n hx hb dX1_init_0 rfl (lv_at hl 0 rfl) ?_
  refine W.objInit hx hb hown (hts _ (gin_ok (p := 72) (by decide +kernel))) (hts _ (gin_ok (p := 59) (by decide +kernel))) (hts _ (gin_ok (p := 60) (by decide +kernel))) rfl (by rw [hml]; exact hl.1) rfl dX1_init_1 (Nat.le_of_ble_eq_true rfl) (Nat.le_of_ble_eq_true rfl) ?_
  refine W.eq (g2 := F0 m 4 ls []) rfl ?_
  refine lv_aload_n hx hb dX1_init_4 rfl (lv_at hl 0 rfl) ?_
  refine lv_bipush (v := 16) hx hb dX1_init_5 (by decide) ?_
  refine cn_newa (atype := .long) (ty := .long) hx hb (hts _ (gin_ok (p := 80) (by decide +kernel))) rfl hK hP hD hS hA 2 (cA0 := K 2) rfl (fun _ h => h) (N' := 16) (a0 := (16, .inr (.inl (fun _ => 0)))) (fun _ => rfl) (by decide) (by decide) (Nat.le_of_ble_eq_true rfl) (Nat.le_of_ble_eq_true rfl) (Nat.le_of_ble_eq_true rfl) dX1_init_7 (fun q1 H hP hD hS => ?_)
  have hP : va_P D gCl [(h0, .inr (1, [.null, .null])), (q1, .inl (K 2, 16, .inr (.inl (fun _ => 0))))] H := hP
  have hD : va_D A [(h0, .inr (1, [.null, .null])), (q1, .inl (K 2, 16, .inr (.inl (fun _ => 0))))] := hD
  refine va_putF (D := D) (ci := 1) (ty := tyX1 0) (C := RX1) (T := TX1) (N := 2) hx hb hts gclk1.2.2.1 tyX1 gclk1.2.2.2.1 gclk1.2.2.2.2.1 hown hK hP hD hS 0 rfl rfl 0 (by decide) (hts _ (gin_ok (p := 73) (by decide +kernel))) (fun _ h9 => h9) rfl hin rfl (v := .ref q1) (gclk1.2.2.2.1 0 (by decide)) rfl rfl (Nat.le_of_ble_eq_true rfl) dX1_init_9 (fun H locs hP hD hS => ?_)
  have hP : va_P D gCl [(h0, .inr (1, [.ref q1, .null])), (q1, .inl (K 2, 16, .inr (.inl (fun _ => 0))))] H := hP
  have hD : va_D A [(h0, .inr (1, [.ref q1, .null])), (q1, .inl (K 2, 16, .inr (.inl (fun _ => 0))))] := hD
  refine lv_aload_n hx hb dX1_init_12 rfl (lv_at hl 0 rfl) ?_
  refine lv_bipush (v := 16) hx hb dX1_init_13 (by decide) ?_
  refine cn_newa (atype := .long) (ty := .long) hx hb (hts _ (gin_ok (p := 80) (by decide +kernel))) rfl hK hP hD hS hA 2 (cA0 := K 2) rfl (fun _ h => h) (N' := 16) (a0 := (16, .inr (.inl (fun _ => 0)))) (fun _ => rfl) (by decide) (by decide) (Nat.le_of_ble_eq_true rfl) (Nat.le_of_ble_eq_true rfl) (Nat.le_of_ble_eq_true rfl) dX1_init_15 (fun q2 H hP hD hS => ?_)
  have hP : va_P D gCl [(h0, .inr (1, [.ref q1, .null])), (q1, .inl (K 2, 16, .inr (.inl (fun _ => 0)))), (q2, .inl (K 2, 16, .inr (.inl (fun _ => 0))))] H := hP
  have hD : va_D A [(h0, .inr (1, [.ref q1, .null])), (q1, .inl (K 2, 16, .inr (.inl (fun _ => 0)))), (q2, .inl (K 2, 16, .inr (.inl (fun _ => 0))))] := hD
  refine va_putF (D := D) (ci := 1) (ty := tyX1 1) (C := RX1) (T := TX1) (N := 2) hx hb hts gclk1.2.2.1 tyX1 gclk1.2.2.2.1 gclk1.2.2.2.2.1 hown hK hP hD hS 0 rfl rfl 1 (by decide) (hts _ (gin_ok (p := 74) (by decide +kernel))) (fun _ h9 => h9) rfl hin rfl (v := .ref q2) (gclk1.2.2.2.1 1 (by decide)) rfl rfl (Nat.le_of_ble_eq_true rfl) dX1_init_17 (fun H locs hP hD hS => ?_)
  have hP : va_P D gCl [(h0, .inr (1, [.ref q1, .ref q2])), (q1, .inl (K 2, 16, .inr (.inl (fun _ => 0)))), (q2, .inl (K 2, 16, .inr (.inl (fun _ => 0))))] H := hP
  have hD : va_D A [(h0, .inr (1, [.ref q1, .ref q2])), (q1, .inl (K 2, 16, .inr (.inl (fun _ => 0)))), (q2, .inl (K 2, 16, .inr (.inl (fun _ => 0))))] := hD
  refine W.widen (k := 2) (n := 32) (by omega) (by omega) ?_
  exact W.vret hx hb hr (fun t ht hW => ⟨⟨[q1, q2], rfl, trivial, by rw [ht]; exact hP, hD⟩, hS.F ht⟩) hS.2.2 dX1_init_20 hlk
theorem dX2_init_0 : decode cX2_init 0 = .ok (.aload_n 0, 1) := by decide +kernel
theorem dX2_init_1 : decode cX2_init 1 = .ok (.invokespecial 1, 3) := by decide +kernel
theorem dX2_init_4 : decode cX2_init 4 = .ok (.aload_n 0, 1) := by decide +kernel
theorem dX2_init_5 : decode cX2_init 5 = .ok (.sipush 256, 3) := by decide +kernel
theorem dX2_init_8 : decode cX2_init 8 = .ok (.newarray .int, 2) := by decide +kernel
theorem dX2_init_10 : decode cX2_init 10 = .ok (.putfield 9, 3) := by decide +kernel
theorem dX2_init_13 : decode cX2_init 13 = .ok (.aload_n 0, 1) := by decide +kernel
theorem dX2_init_14 : decode cX2_init 14 = .ok (.sipush 256, 3) := by decide +kernel
theorem dX2_init_17 : decode cX2_init 17 = .ok (.newarray .int, 2) := by decide +kernel
theorem dX2_init_19 : decode cX2_init 19 = .ok (.putfield 13, 3) := by decide +kernel
theorem dX2_init_22 : decode cX2_init 22 = .ok (.aload_n 0, 1) := by decide +kernel
theorem dX2_init_23 : decode cX2_init 23 = .ok (.sipush 256, 3) := by decide +kernel
theorem dX2_init_26 : decode cX2_init 26 = .ok (.newarray .int, 2) := by decide +kernel
theorem dX2_init_28 : decode cX2_init 28 = .ok (.putfield 16, 3) := by decide +kernel
theorem dX2_init_31 : decode cX2_init 31 = .ok (.return_, 1) := by decide +kernel
def cwX2 (K : Nat → ClassId) (h0 : Nat) (u : List Nat) : va_W := [(h0, .inr (2, [.ref (u.getD 0 0), .ref (u.getD 1 0), .ref (u.getD 2 0)])), ((u.getD 0 0), .inl (K 0, 256, .inl (fun _ => 0))), ((u.getD 1 0), .inl (K 0, 256, .inl (fun _ => 0))), ((u.getD 2 0), .inl (K 0, 256, .inl (fun _ => 0)))]
abbrev ciX2 (h0 : Nat) : va_W := [(h0, .inr (2, [.null, .null, .null]))]
set_option maxHeartbeats 4000000 in
set_option maxRecDepth 100000 in
theorem c_X2_init (l : Launch) (D : va_G) (K : Nat → ClassId) (h0 sz : Nat) : Met l yX2_init (gws myX2_init) { frames := 1, cells := 3, slots := 768, locals := 12 } (va_Pc [.ref h0] (cPre D K (ciX2 h0) sz)) (va_Qv (fun _ : List Nat => True) (fun u t => va_P D gCl (cwX2 K h0 u) t.heap ∧ va_D (va_A (ciX2 h0) sz) (cwX2 K h0 u)) (va_A (ciX2 h0) sz)) 3 768 (va_A (ciX2 h0) sz) := by
  refine gMet_ofW (cc := cX2_init) (maxL := 1) (ret := none) (by decide) rfl ?_
  intro p e s m args below meth c s₁ B hml hv
  obtain ⟨rfl, hsz, hP, hK⟩ := hv
  have hx := B.exec
  have hb := B.bytes
  have hr := B.returns
  have hts0 := atoms_spec (ws := gws myX2_init) B.pre
  have hts : ∀ w ∈ gWs, w.before #[Value.ref h0] s = true := fun w hw => hts0 w (List.mem_cons_of_mem _ hw)
  have hown : s.vm.findClass RX2 = some m.cls := findClass_of_methodNamed B.named
  have hlk := B.notSynchronized
  have hin : meth.name = "<init>" := (name_of_methodNamed B.named B.method).1
  subst hsz
  have hD : va_D (va_A (ciX2 h0) s.heap.size) (ciX2 h0) := va_D.self (A := fun _ => True) (va_D1 trivial)
  generalize hAe : va_A (ciX2 h0) s.heap.size = A at hD ⊢
  have hA : ∀ q : Nat, s.heap.size ≤ q → A q := fun q h => by rw [← hAe]; exact Or.inr h
  have hS : va_S A s.heap s.heap [] := va_S.rf
  have hl := lv_entry ([.ref h0]) (n := 1) (Nat.le_of_ble_eq_true rfl)
  show W p l e _ s m _ below meth c s.heap [] 0 0 _ (entryFrame m ([Value.ref h0] : List Value).toArray 1)
  rw [lg_entry_eq]
  generalize (lg_sl ([.ref h0]) ++ List.replicate (1 - (lg_sl ([.ref h0])).length) Slot.unset).toArray = ls at hl ⊢
  have hl : lv_has ls 1 [(0, .ref h0)] := hl
  have hP : va_P D gCl [(h0, .inr (2, [.null, .null, .null]))] s.heap := hP
  have hD : va_D A [(h0, .inr (2, [.null, .null, .null]))] := hD
  refine lv_aload_n hx hb dX2_init_0 rfl (lv_at hl 0 rfl) ?_
  refine W.objInit hx hb hown (hts _ (gin_ok (p := 157) (by decide +kernel))) (hts _ (gin_ok (p := 59) (by decide +kernel))) (hts _ (gin_ok (p := 60) (by decide +kernel))) rfl (by rw [hml]; exact hl.1) rfl dX2_init_1 (Nat.le_of_ble_eq_true rfl) (Nat.le_of_ble_eq_true rfl) ?_
  refine W.eq (g2 := F0 m 4 ls []) rfl ?_
  refine lv_aload_n hx hb dX2_init_4 rfl (lv_at hl 0 rfl) ?_
  refine lv_sipush (v := 256) hx hb dX2_init_5 (by decide) ?_
  refine cn_newa (atype := .int) (ty := .int) hx hb (hts _ (gin_ok (p := 138) (by decide +kernel))) rfl hK hP hD hS hA 0 (cA0 := K 0) rfl (fun _ h => h) (N' := 256) (a0 := (256, .inl (fun _ => 0))) (fun _ => rfl) (by decide) (by decide) (Nat.le_of_ble_eq_true rfl) (Nat.le_of_ble_eq_true rfl) (Nat.le_of_ble_eq_true rfl) dX2_init_8 (fun q1 H hP hD hS => ?_)
  have hP : va_P D gCl [(h0, .inr (2, [.null, .null, .null])), (q1, .inl (K 0, 256, .inl (fun _ => 0)))] H := hP
  have hD : va_D A [(h0, .inr (2, [.null, .null, .null])), (q1, .inl (K 0, 256, .inl (fun _ => 0)))] := hD
  refine va_putF (D := D) (ci := 2) (ty := tyX2 0) (C := RX2) (T := TX2) (N := 3) hx hb hts gclk2.2.2.1 tyX2 gclk2.2.2.2.1 gclk2.2.2.2.2.1 hown hK hP hD hS 0 rfl rfl 0 (by decide) (hts _ (gin_ok (p := 158) (by decide +kernel))) (fun _ h9 => h9) rfl hin rfl (v := .ref q1) (gclk2.2.2.2.1 0 (by decide)) rfl rfl (Nat.le_of_ble_eq_true rfl) dX2_init_10 (fun H locs hP hD hS => ?_)
  have hP : va_P D gCl [(h0, .inr (2, [.ref q1, .null, .null])), (q1, .inl (K 0, 256, .inl (fun _ => 0)))] H := hP
  have hD : va_D A [(h0, .inr (2, [.ref q1, .null, .null])), (q1, .inl (K 0, 256, .inl (fun _ => 0)))] := hD
  refine lv_aload_n hx hb dX2_init_13 rfl (lv_at hl 0 rfl) ?_
  refine lv_sipush (v := 256) hx hb dX2_init_14 (by decide) ?_
  refine cn_newa (atype := .int) (ty := .int) hx hb (hts _ (gin_ok (p := 138) (by decide +kernel))) rfl hK hP hD hS hA 0 (cA0 := K 0) rfl (fun _ h => h) (N' := 256) (a0 := (256, .inl (fun _ => 0))) (fun _ => rfl) (by decide) (by decide) (Nat.le_of_ble_eq_true rfl) (Nat.le_of_ble_eq_true rfl) (Nat.le_of_ble_eq_true rfl) dX2_init_17 (fun q2 H hP hD hS => ?_)
  have hP : va_P D gCl [(h0, .inr (2, [.ref q1, .null, .null])), (q1, .inl (K 0, 256, .inl (fun _ => 0))), (q2, .inl (K 0, 256, .inl (fun _ => 0)))] H := hP
  have hD : va_D A [(h0, .inr (2, [.ref q1, .null, .null])), (q1, .inl (K 0, 256, .inl (fun _ => 0))), (q2, .inl (K 0, 256, .inl (fun _ => 0)))] := hD
  refine va_putF (D := D) (ci := 2) (ty := tyX2 1) (C := RX2) (T := TX2) (N := 3) hx hb hts gclk2.2.2.1 tyX2 gclk2.2.2.2.1 gclk2.2.2.2.2.1 hown hK hP hD hS 0 rfl rfl 1 (by decide) (hts _ (gin_ok (p := 159) (by decide +kernel))) (fun _ h9 => h9) rfl hin rfl (v := .ref q2) (gclk2.2.2.2.1 1 (by decide)) rfl rfl (Nat.le_of_ble_eq_true rfl) dX2_init_19 (fun H locs hP hD hS => ?_)
  have hP : va_P D gCl [(h0, .inr (2, [.ref q1, .ref q2, .null])), (q1, .inl (K 0, 256, .inl (fun _ => 0))), (q2, .inl (K 0, 256, .inl (fun _ => 0)))] H := hP
  have hD : va_D A [(h0, .inr (2, [.ref q1, .ref q2, .null])), (q1, .inl (K 0, 256, .inl (fun _ => 0))), (q2, .inl (K 0, 256, .inl (fun _ => 0)))] := hD
  refine lv_aload_n hx hb dX2_init_22 rfl (lv_at hl 0 rfl) ?_
  refine lv_sipush (v := 256) hx hb dX2_init_23 (by decide) ?_
  refine cn_newa (atype := .int) (ty := .int) hx hb (hts _ (gin_ok (p := 138) (by decide +kernel))) rfl hK hP hD hS hA 0 (cA0 := K 0) rfl (fun _ h => h) (N' := 256) (a0 := (256, .inl (fun _ => 0))) (fun _ => rfl) (by decide) (by decide) (Nat.le_of_ble_eq_true rfl) (Nat.le_of_ble_eq_true rfl) (Nat.le_of_ble_eq_true rfl) dX2_init_26 (fun q3 H hP hD hS => ?_)
  have hP : va_P D gCl [(h0, .inr (2, [.ref q1, .ref q2, .null])), (q1, .inl (K 0, 256, .inl (fun _ => 0))), (q2, .inl (K 0, 256, .inl (fun _ => 0))), (q3, .inl (K 0, 256, .inl (fun _ => 0)))] H := hP
  have hD : va_D A [(h0, .inr (2, [.ref q1, .ref q2, .null])), (q1, .inl (K 0, 256, .inl (fun _ => 0))), (q2, .inl (K 0, 256, .inl (fun _ => 0))), (q3, .inl (K 0, 256, .inl (fun _ => 0)))] := hD
  refine va_putF (D := D) (ci := 2) (ty := tyX2 2) (C := RX2) (T := TX2) (N := 3) hx hb hts gclk2.2.2.1 tyX2 gclk2.2.2.2.1 gclk2.2.2.2.2.1 hown hK hP hD hS 0 rfl rfl 2 (by decide) (hts _ (gin_ok (p := 160) (by decide +kernel))) (fun _ h9 => h9) rfl hin rfl (v := .ref q3) (gclk2.2.2.2.1 2 (by decide)) rfl rfl (Nat.le_of_ble_eq_true rfl) dX2_init_28 (fun H locs hP hD hS => ?_)
  have hP : va_P D gCl [(h0, .inr (2, [.ref q1, .ref q2, .ref q3])), (q1, .inl (K 0, 256, .inl (fun _ => 0))), (q2, .inl (K 0, 256, .inl (fun _ => 0))), (q3, .inl (K 0, 256, .inl (fun _ => 0)))] H := hP
  have hD : va_D A [(h0, .inr (2, [.ref q1, .ref q2, .ref q3])), (q1, .inl (K 0, 256, .inl (fun _ => 0))), (q2, .inl (K 0, 256, .inl (fun _ => 0))), (q3, .inl (K 0, 256, .inl (fun _ => 0)))] := hD
  refine W.widen (k := 3) (n := 768) (by omega) (by omega) ?_
  exact W.vret hx hb hr (fun t ht hW => ⟨⟨[q1, q2, q3], rfl, trivial, by rw [ht]; exact hP, hD⟩, hS.F ht⟩) hS.2.2 dX2_init_31 hlk
theorem dX3_init_0 : decode cX3_init 0 = .ok (.aload_n 0, 1) := by decide +kernel
theorem dX3_init_1 : decode cX3_init 1 = .ok (.invokespecial 3, 3) := by decide +kernel
theorem dX3_init_4 : decode cX3_init 4 = .ok (.aload_n 0, 1) := by decide +kernel
theorem dX3_init_5 : decode cX3_init 5 = .ok (.bipush 16, 2) := by decide +kernel
theorem dX3_init_7 : decode cX3_init 7 = .ok (.newarray .int, 2) := by decide +kernel
theorem dX3_init_9 : decode cX3_init 9 = .ok (.putfield 9, 3) := by decide +kernel
theorem dX3_init_12 : decode cX3_init 12 = .ok (.aload_n 0, 1) := by decide +kernel
theorem dX3_init_13 : decode cX3_init 13 = .ok (.iconst 0, 1) := by decide +kernel
theorem dX3_init_14 : decode cX3_init 14 = .ok (.putfield 15, 3) := by decide +kernel
theorem dX3_init_17 : decode cX3_init 17 = .ok (.aload_n 0, 1) := by decide +kernel
theorem dX3_init_18 : decode cX3_init 18 = .ok (.iconst 0, 1) := by decide +kernel
theorem dX3_init_19 : decode cX3_init 19 = .ok (.putfield 19, 3) := by decide +kernel
theorem dX3_init_22 : decode cX3_init 22 = .ok (.return_, 1) := by decide +kernel
def cwX3 (K : Nat → ClassId) (h0 : Nat) (u : List Nat) : va_W := [(h0, .inr (3, [.ref (u.getD 0 0), .int 0, .int 0])), ((u.getD 0 0), .inl (K 0, 16, .inl (fun _ => 0)))]
abbrev ciX3 (h0 : Nat) : va_W := [(h0, .inr (3, [.null, .int 0, .int 0]))]
set_option maxHeartbeats 4000000 in
set_option maxRecDepth 100000 in
theorem c_X3_init (l : Launch) (D : va_G) (K : Nat → ClassId) (h0 sz : Nat) : Met l yX3_init (gws myX3_init) { frames := 1, cells := 1, slots := 16, locals := 12 } (va_Pc [.ref h0] (cPre D K (ciX3 h0) sz)) (va_Qv (fun _ : List Nat => True) (fun u t => va_P D gCl (cwX3 K h0 u) t.heap ∧ va_D (va_A (ciX3 h0) sz) (cwX3 K h0 u)) (va_A (ciX3 h0) sz)) 1 16 (va_A (ciX3 h0) sz) := by
  refine gMet_ofW (cc := cX3_init) (maxL := 1) (ret := none) (by decide) rfl ?_
  intro p e s m args below meth c s₁ B hml hv
  obtain ⟨rfl, hsz, hP, hK⟩ := hv
  have hx := B.exec
  have hb := B.bytes
  have hr := B.returns
  have hts0 := atoms_spec (ws := gws myX3_init) B.pre
  have hts : ∀ w ∈ gWs, w.before #[Value.ref h0] s = true := fun w hw => hts0 w (List.mem_cons_of_mem _ hw)
  have hown : s.vm.findClass RX3 = some m.cls := findClass_of_methodNamed B.named
  have hlk := B.notSynchronized
  have hin : meth.name = "<init>" := (name_of_methodNamed B.named B.method).1
  subst hsz
  have hD : va_D (va_A (ciX3 h0) s.heap.size) (ciX3 h0) := va_D.self (A := fun _ => True) (va_D1 trivial)
  generalize hAe : va_A (ciX3 h0) s.heap.size = A at hD ⊢
  have hA : ∀ q : Nat, s.heap.size ≤ q → A q := fun q h => by rw [← hAe]; exact Or.inr h
  have hS : va_S A s.heap s.heap [] := va_S.rf
  have hl := lv_entry ([.ref h0]) (n := 1) (Nat.le_of_ble_eq_true rfl)
  show W p l e _ s m _ below meth c s.heap [] 0 0 _ (entryFrame m ([Value.ref h0] : List Value).toArray 1)
  rw [lg_entry_eq]
  generalize (lg_sl ([.ref h0]) ++ List.replicate (1 - (lg_sl ([.ref h0])).length) Slot.unset).toArray = ls at hl ⊢
  have hl : lv_has ls 1 [(0, .ref h0)] := hl
  have hP : va_P D gCl [(h0, .inr (3, [.null, .int 0, .int 0]))] s.heap := hP
  have hD : va_D A [(h0, .inr (3, [.null, .int 0, .int 0]))] := hD
  refine lv_aload_n hx hb dX3_init_0 rfl (lv_at hl 0 rfl) ?_
  refine W.objInit hx hb hown (hts _ (gin_ok (p := 223) (by decide +kernel))) (hts _ (gin_ok (p := 59) (by decide +kernel))) (hts _ (gin_ok (p := 60) (by decide +kernel))) rfl (by rw [hml]; exact hl.1) rfl dX3_init_1 (Nat.le_of_ble_eq_true rfl) (Nat.le_of_ble_eq_true rfl) ?_
  refine W.eq (g2 := F0 m 4 ls []) rfl ?_
  refine lv_aload_n hx hb dX3_init_4 rfl (lv_at hl 0 rfl) ?_
  refine lv_bipush (v := 16) hx hb dX3_init_5 (by decide) ?_
  refine cn_newa (atype := .int) (ty := .int) hx hb (hts _ (gin_ok (p := 138) (by decide +kernel))) rfl hK hP hD hS hA 0 (cA0 := K 0) rfl (fun _ h => h) (N' := 16) (a0 := (16, .inl (fun _ => 0))) (fun _ => rfl) (by decide) (by decide) (Nat.le_of_ble_eq_true rfl) (Nat.le_of_ble_eq_true rfl) (Nat.le_of_ble_eq_true rfl) dX3_init_7 (fun q1 H hP hD hS => ?_)
  have hP : va_P D gCl [(h0, .inr (3, [.null, .int 0, .int 0])), (q1, .inl (K 0, 16, .inl (fun _ => 0)))] H := hP
  have hD : va_D A [(h0, .inr (3, [.null, .int 0, .int 0])), (q1, .inl (K 0, 16, .inl (fun _ => 0)))] := hD
  refine va_putF (D := D) (ci := 3) (ty := tyX3 0) (C := RX3) (T := TX3) (N := 3) hx hb hts gclk3.2.2.1 tyX3 gclk3.2.2.2.1 gclk3.2.2.2.2.1 hown hK hP hD hS 0 rfl rfl 0 (by decide) (hts _ (gin_ok (p := 224) (by decide +kernel))) (fun _ h9 => h9) rfl hin rfl (v := .ref q1) (gclk3.2.2.2.1 0 (by decide)) rfl rfl (Nat.le_of_ble_eq_true rfl) dX3_init_9 (fun H locs hP hD hS => ?_)
  have hP : va_P D gCl [(h0, .inr (3, [.ref q1, .int 0, .int 0])), (q1, .inl (K 0, 16, .inl (fun _ => 0)))] H := hP
  have hD : va_D A [(h0, .inr (3, [.ref q1, .int 0, .int 0])), (q1, .inl (K 0, 16, .inl (fun _ => 0)))] := hD
  refine lv_aload_n hx hb dX3_init_12 rfl (lv_at hl 0 rfl) ?_
  refine lv_iconst (v := 0) hx hb dX3_init_13 (by decide) ?_
  refine va_put (D := D) (ci := 3) (ty := tyX3 1) (C := RX3) (T := TX3) (N := 3) hx hb hts gclk3.2.2.1 tyX3 gclk3.2.2.2.1 gclk3.2.2.2.2.1 hown hK hP hD hS 0 rfl rfl 1 (by decide) (hts _ (gin_ok (p := 226) (by decide +kernel))) (fun _ h9 => h9) rfl (v := .int 0) (gclk3.2.2.2.1 1 (by decide)) rfl rfl (Nat.le_of_ble_eq_true rfl) dX3_init_14 (fun H locs hP hD hS => ?_)
  have hP : va_P D gCl [(h0, .inr (3, [.ref q1, .int 0, .int 0])), (q1, .inl (K 0, 16, .inl (fun _ => 0)))] H := hP
  have hD : va_D A [(h0, .inr (3, [.ref q1, .int 0, .int 0])), (q1, .inl (K 0, 16, .inl (fun _ => 0)))] := hD
  refine lv_aload_n hx hb dX3_init_17 rfl (lv_at hl 0 rfl) ?_
  refine lv_iconst (v := 0) hx hb dX3_init_18 (by decide) ?_
  refine va_put (D := D) (ci := 3) (ty := tyX3 2) (C := RX3) (T := TX3) (N := 3) hx hb hts gclk3.2.2.1 tyX3 gclk3.2.2.2.1 gclk3.2.2.2.2.1 hown hK hP hD hS 0 rfl rfl 2 (by decide) (hts _ (gin_ok (p := 228) (by decide +kernel))) (fun _ h9 => h9) rfl (v := .int 0) (gclk3.2.2.2.1 2 (by decide)) rfl rfl (Nat.le_of_ble_eq_true rfl) dX3_init_19 (fun H locs hP hD hS => ?_)
  have hP : va_P D gCl [(h0, .inr (3, [.ref q1, .int 0, .int 0])), (q1, .inl (K 0, 16, .inl (fun _ => 0)))] H := hP
  have hD : va_D A [(h0, .inr (3, [.ref q1, .int 0, .int 0])), (q1, .inl (K 0, 16, .inl (fun _ => 0)))] := hD
  refine W.widen (k := 1) (n := 16) (by omega) (by omega) ?_
  exact W.vret hx hb hr (fun t ht hW => ⟨⟨[q1], rfl, trivial, by rw [ht]; exact hP, hD⟩, hS.F ht⟩) hS.2.2 dX3_init_22 hlk
theorem dX4_init_0 : decode cX4_init 0 = .ok (.aload_n 0, 1) := by decide +kernel
theorem dX4_init_1 : decode cX4_init 1 = .ok (.invokespecial 3, 3) := by decide +kernel
theorem dX4_init_4 : decode cX4_init 4 = .ok (.aload_n 0, 1) := by decide +kernel
theorem dX4_init_5 : decode cX4_init 5 = .ok (.iconst 4, 1) := by decide +kernel
theorem dX4_init_6 : decode cX4_init 6 = .ok (.newarray .int, 2) := by decide +kernel
theorem dX4_init_8 : decode cX4_init 8 = .ok (.putfield 11, 3) := by decide +kernel
theorem dX4_init_11 : decode cX4_init 11 = .ok (.aload_n 0, 1) := by decide +kernel
theorem dX4_init_12 : decode cX4_init 12 = .ok (.iconst 0, 1) := by decide +kernel
theorem dX4_init_13 : decode cX4_init 13 = .ok (.putfield 15, 3) := by decide +kernel
theorem dX4_init_16 : decode cX4_init 16 = .ok (.return_, 1) := by decide +kernel
def cwX4 (K : Nat → ClassId) (h0 : Nat) (u : List Nat) : va_W := [(h0, .inr (4, [.ref (u.getD 0 0), .int 0])), ((u.getD 0 0), .inl (K 0, 4, .inl (fun _ => 0)))]
abbrev ciX4 (h0 : Nat) : va_W := [(h0, .inr (4, [.null, .int 0]))]
set_option maxHeartbeats 4000000 in
set_option maxRecDepth 100000 in
theorem c_X4_init (l : Launch) (D : va_G) (K : Nat → ClassId) (h0 sz : Nat) : Met l yX4_init (gws myX4_init) { frames := 1, cells := 1, slots := 4, locals := 12 } (va_Pc [.ref h0] (cPre D K (ciX4 h0) sz)) (va_Qv (fun _ : List Nat => True) (fun u t => va_P D gCl (cwX4 K h0 u) t.heap ∧ va_D (va_A (ciX4 h0) sz) (cwX4 K h0 u)) (va_A (ciX4 h0) sz)) 1 4 (va_A (ciX4 h0) sz) := by
  refine gMet_ofW (cc := cX4_init) (maxL := 1) (ret := none) (by decide) rfl ?_
  intro p e s m args below meth c s₁ B hml hv
  obtain ⟨rfl, hsz, hP, hK⟩ := hv
  have hx := B.exec
  have hb := B.bytes
  have hr := B.returns
  have hts0 := atoms_spec (ws := gws myX4_init) B.pre
  have hts : ∀ w ∈ gWs, w.before #[Value.ref h0] s = true := fun w hw => hts0 w (List.mem_cons_of_mem _ hw)
  have hown : s.vm.findClass RX4 = some m.cls := findClass_of_methodNamed B.named
  have hlk := B.notSynchronized
  have hin : meth.name = "<init>" := (name_of_methodNamed B.named B.method).1
  subst hsz
  have hD : va_D (va_A (ciX4 h0) s.heap.size) (ciX4 h0) := va_D.self (A := fun _ => True) (va_D1 trivial)
  generalize hAe : va_A (ciX4 h0) s.heap.size = A at hD ⊢
  have hA : ∀ q : Nat, s.heap.size ≤ q → A q := fun q h => by rw [← hAe]; exact Or.inr h
  have hS : va_S A s.heap s.heap [] := va_S.rf
  have hl := lv_entry ([.ref h0]) (n := 1) (Nat.le_of_ble_eq_true rfl)
  show W p l e _ s m _ below meth c s.heap [] 0 0 _ (entryFrame m ([Value.ref h0] : List Value).toArray 1)
  rw [lg_entry_eq]
  generalize (lg_sl ([.ref h0]) ++ List.replicate (1 - (lg_sl ([.ref h0])).length) Slot.unset).toArray = ls at hl ⊢
  have hl : lv_has ls 1 [(0, .ref h0)] := hl
  have hP : va_P D gCl [(h0, .inr (4, [.null, .int 0]))] s.heap := hP
  have hD : va_D A [(h0, .inr (4, [.null, .int 0]))] := hD
  refine lv_aload_n hx hb dX4_init_0 rfl (lv_at hl 0 rfl) ?_
  refine W.objInit hx hb hown (hts _ (gin_ok (p := 144) (by decide +kernel))) (hts _ (gin_ok (p := 59) (by decide +kernel))) (hts _ (gin_ok (p := 60) (by decide +kernel))) rfl (by rw [hml]; exact hl.1) rfl dX4_init_1 (Nat.le_of_ble_eq_true rfl) (Nat.le_of_ble_eq_true rfl) ?_
  refine W.eq (g2 := F0 m 4 ls []) rfl ?_
  refine lv_aload_n hx hb dX4_init_4 rfl (lv_at hl 0 rfl) ?_
  refine lv_iconst (v := 4) hx hb dX4_init_5 (by decide) ?_
  refine cn_newa (atype := .int) (ty := .int) hx hb (hts _ (gin_ok (p := 138) (by decide +kernel))) rfl hK hP hD hS hA 0 (cA0 := K 0) rfl (fun _ h => h) (N' := 4) (a0 := (4, .inl (fun _ => 0))) (fun _ => rfl) (by decide) (by decide) (Nat.le_of_ble_eq_true rfl) (Nat.le_of_ble_eq_true rfl) (Nat.le_of_ble_eq_true rfl) dX4_init_6 (fun q1 H hP hD hS => ?_)
  have hP : va_P D gCl [(h0, .inr (4, [.null, .int 0])), (q1, .inl (K 0, 4, .inl (fun _ => 0)))] H := hP
  have hD : va_D A [(h0, .inr (4, [.null, .int 0])), (q1, .inl (K 0, 4, .inl (fun _ => 0)))] := hD
  refine va_putF (D := D) (ci := 4) (ty := tyX4 0) (C := RX4) (T := TX4) (N := 2) hx hb hts gclk4.2.2.1 tyX4 gclk4.2.2.2.1 gclk4.2.2.2.2.1 hown hK hP hD hS 0 rfl rfl 0 (by decide) (hts _ (gin_ok (p := 145) (by decide +kernel))) (fun _ h9 => h9) rfl hin rfl (v := .ref q1) (gclk4.2.2.2.1 0 (by decide)) rfl rfl (Nat.le_of_ble_eq_true rfl) dX4_init_8 (fun H locs hP hD hS => ?_)
  have hP : va_P D gCl [(h0, .inr (4, [.ref q1, .int 0])), (q1, .inl (K 0, 4, .inl (fun _ => 0)))] H := hP
  have hD : va_D A [(h0, .inr (4, [.ref q1, .int 0])), (q1, .inl (K 0, 4, .inl (fun _ => 0)))] := hD
  refine lv_aload_n hx hb dX4_init_11 rfl (lv_at hl 0 rfl) ?_
  refine lv_iconst (v := 0) hx hb dX4_init_12 (by decide) ?_
  refine va_put (D := D) (ci := 4) (ty := tyX4 1) (C := RX4) (T := TX4) (N := 2) hx hb hts gclk4.2.2.1 tyX4 gclk4.2.2.2.1 gclk4.2.2.2.2.1 hown hK hP hD hS 0 rfl rfl 1 (by decide) (hts _ (gin_ok (p := 146) (by decide +kernel))) (fun _ h9 => h9) rfl (v := .int 0) (gclk4.2.2.2.1 1 (by decide)) rfl rfl (Nat.le_of_ble_eq_true rfl) dX4_init_13 (fun H locs hP hD hS => ?_)
  have hP : va_P D gCl [(h0, .inr (4, [.ref q1, .int 0])), (q1, .inl (K 0, 4, .inl (fun _ => 0)))] H := hP
  have hD : va_D A [(h0, .inr (4, [.ref q1, .int 0])), (q1, .inl (K 0, 4, .inl (fun _ => 0)))] := hD
  refine W.widen (k := 1) (n := 4) (by omega) (by omega) ?_
  exact W.vret hx hb hr (fun t ht hW => ⟨⟨[q1], rfl, trivial, by rw [ht]; exact hP, hD⟩, hS.F ht⟩) hS.2.2 dX4_init_16 hlk
theorem dX5_init_0 : decode cX5_init 0 = .ok (.aload_n 0, 1) := by decide +kernel
theorem dX5_init_1 : decode cX5_init 1 = .ok (.invokespecial 5, 3) := by decide +kernel
theorem dX5_init_4 : decode cX5_init 4 = .ok (.aload_n 0, 1) := by decide +kernel
theorem dX5_init_5 : decode cX5_init 5 = .ok (.bipush 80, 2) := by decide +kernel
theorem dX5_init_7 : decode cX5_init 7 = .ok (.newarray .int, 2) := by decide +kernel
theorem dX5_init_9 : decode cX5_init 9 = .ok (.putfield 13, 3) := by decide +kernel
theorem dX5_init_12 : decode cX5_init 12 = .ok (.aload_n 0, 1) := by decide +kernel
theorem dX5_init_13 : decode cX5_init 13 = .ok (.sipush 400, 3) := by decide +kernel
theorem dX5_init_16 : decode cX5_init 16 = .ok (.newarray .int, 2) := by decide +kernel
theorem dX5_init_18 : decode cX5_init 18 = .ok (.putfield 17, 3) := by decide +kernel
theorem dX5_init_21 : decode cX5_init 21 = .ok (.aload_n 0, 1) := by decide +kernel
theorem dX5_init_22 : decode cX5_init 22 = .ok (.iconst 0, 1) := by decide +kernel
theorem dX5_init_23 : decode cX5_init 23 = .ok (.putfield 20, 3) := by decide +kernel
theorem dX5_init_26 : decode cX5_init 26 = .ok (.aload_n 0, 1) := by decide +kernel
theorem dX5_init_27 : decode cX5_init 27 = .ok (.iconst 0, 1) := by decide +kernel
theorem dX5_init_28 : decode cX5_init 28 = .ok (.putfield 24, 3) := by decide +kernel
theorem dX5_init_31 : decode cX5_init 31 = .ok (.aload_n 0, 1) := by decide +kernel
theorem dX5_init_32 : decode cX5_init 32 = .ok (.iconst 0, 1) := by decide +kernel
theorem dX5_init_33 : decode cX5_init 33 = .ok (.putfield 27, 3) := by decide +kernel
theorem dX5_init_36 : decode cX5_init 36 = .ok (.return_, 1) := by decide +kernel
def cwX5 (K : Nat → ClassId) (h0 : Nat) (u : List Nat) : va_W := [(h0, .inr (5, [.ref (u.getD 0 0), .ref (u.getD 1 0), .int 0, .int 0, .int 0])), ((u.getD 0 0), .inl (K 0, 80, .inl (fun _ => 0))), ((u.getD 1 0), .inl (K 0, 400, .inl (fun _ => 0)))]
abbrev ciX5 (h0 : Nat) : va_W := [(h0, .inr (5, [.null, .null, .int 0, .int 0, .int 0]))]
set_option maxHeartbeats 4000000 in
set_option maxRecDepth 100000 in
theorem c_X5_init (l : Launch) (D : va_G) (K : Nat → ClassId) (h0 sz : Nat) : Met l yX5_init (gws myX5_init) { frames := 1, cells := 2, slots := 480, locals := 12 } (va_Pc [.ref h0] (cPre D K (ciX5 h0) sz)) (va_Qv (fun _ : List Nat => True) (fun u t => va_P D gCl (cwX5 K h0 u) t.heap ∧ va_D (va_A (ciX5 h0) sz) (cwX5 K h0 u)) (va_A (ciX5 h0) sz)) 2 480 (va_A (ciX5 h0) sz) := by
  refine gMet_ofW (cc := cX5_init) (maxL := 1) (ret := none) (by decide) rfl ?_
  intro p e s m args below meth c s₁ B hml hv
  obtain ⟨rfl, hsz, hP, hK⟩ := hv
  have hx := B.exec
  have hb := B.bytes
  have hr := B.returns
  have hts0 := atoms_spec (ws := gws myX5_init) B.pre
  have hts : ∀ w ∈ gWs, w.before #[Value.ref h0] s = true := fun w hw => hts0 w (List.mem_cons_of_mem _ hw)
  have hown : s.vm.findClass RX5 = some m.cls := findClass_of_methodNamed B.named
  have hlk := B.notSynchronized
  have hin : meth.name = "<init>" := (name_of_methodNamed B.named B.method).1
  subst hsz
  have hD : va_D (va_A (ciX5 h0) s.heap.size) (ciX5 h0) := va_D.self (A := fun _ => True) (va_D1 trivial)
  generalize hAe : va_A (ciX5 h0) s.heap.size = A at hD ⊢
  have hA : ∀ q : Nat, s.heap.size ≤ q → A q := fun q h => by rw [← hAe]; exact Or.inr h
  have hS : va_S A s.heap s.heap [] := va_S.rf
  have hl := lv_entry ([.ref h0]) (n := 1) (Nat.le_of_ble_eq_true rfl)
  show W p l e _ s m _ below meth c s.heap [] 0 0 _ (entryFrame m ([Value.ref h0] : List Value).toArray 1)
  rw [lg_entry_eq]
  generalize (lg_sl ([.ref h0]) ++ List.replicate (1 - (lg_sl ([.ref h0])).length) Slot.unset).toArray = ls at hl ⊢
  have hl : lv_has ls 1 [(0, .ref h0)] := hl
  have hP : va_P D gCl [(h0, .inr (5, [.null, .null, .int 0, .int 0, .int 0]))] s.heap := hP
  have hD : va_D A [(h0, .inr (5, [.null, .null, .int 0, .int 0, .int 0]))] := hD
  refine lv_aload_n hx hb dX5_init_0 rfl (lv_at hl 0 rfl) ?_
  refine W.objInit hx hb hown (hts _ (gin_ok (p := 116) (by decide +kernel))) (hts _ (gin_ok (p := 59) (by decide +kernel))) (hts _ (gin_ok (p := 60) (by decide +kernel))) rfl (by rw [hml]; exact hl.1) rfl dX5_init_1 (Nat.le_of_ble_eq_true rfl) (Nat.le_of_ble_eq_true rfl) ?_
  refine W.eq (g2 := F0 m 4 ls []) rfl ?_
  refine lv_aload_n hx hb dX5_init_4 rfl (lv_at hl 0 rfl) ?_
  refine lv_bipush (v := 80) hx hb dX5_init_5 (by decide) ?_
  refine cn_newa (atype := .int) (ty := .int) hx hb (hts _ (gin_ok (p := 138) (by decide +kernel))) rfl hK hP hD hS hA 0 (cA0 := K 0) rfl (fun _ h => h) (N' := 80) (a0 := (80, .inl (fun _ => 0))) (fun _ => rfl) (by decide) (by decide) (Nat.le_of_ble_eq_true rfl) (Nat.le_of_ble_eq_true rfl) (Nat.le_of_ble_eq_true rfl) dX5_init_7 (fun q1 H hP hD hS => ?_)
  have hP : va_P D gCl [(h0, .inr (5, [.null, .null, .int 0, .int 0, .int 0])), (q1, .inl (K 0, 80, .inl (fun _ => 0)))] H := hP
  have hD : va_D A [(h0, .inr (5, [.null, .null, .int 0, .int 0, .int 0])), (q1, .inl (K 0, 80, .inl (fun _ => 0)))] := hD
  refine va_putF (D := D) (ci := 5) (ty := tyX5 0) (C := RX5) (T := TX5) (N := 5) hx hb hts gclk5.2.2.1 tyX5 gclk5.2.2.2.1 gclk5.2.2.2.2.1 hown hK hP hD hS 0 rfl rfl 0 (by decide) (hts _ (gin_ok (p := 117) (by decide +kernel))) (fun _ h9 => h9) rfl hin rfl (v := .ref q1) (gclk5.2.2.2.1 0 (by decide)) rfl rfl (Nat.le_of_ble_eq_true rfl) dX5_init_9 (fun H locs hP hD hS => ?_)
  have hP : va_P D gCl [(h0, .inr (5, [.ref q1, .null, .int 0, .int 0, .int 0])), (q1, .inl (K 0, 80, .inl (fun _ => 0)))] H := hP
  have hD : va_D A [(h0, .inr (5, [.ref q1, .null, .int 0, .int 0, .int 0])), (q1, .inl (K 0, 80, .inl (fun _ => 0)))] := hD
  refine lv_aload_n hx hb dX5_init_12 rfl (lv_at hl 0 rfl) ?_
  refine lv_sipush (v := 400) hx hb dX5_init_13 (by decide) ?_
  refine cn_newa (atype := .int) (ty := .int) hx hb (hts _ (gin_ok (p := 138) (by decide +kernel))) rfl hK hP hD hS hA 0 (cA0 := K 0) rfl (fun _ h => h) (N' := 400) (a0 := (400, .inl (fun _ => 0))) (fun _ => rfl) (by decide) (by decide) (Nat.le_of_ble_eq_true rfl) (Nat.le_of_ble_eq_true rfl) (Nat.le_of_ble_eq_true rfl) dX5_init_16 (fun q2 H hP hD hS => ?_)
  have hP : va_P D gCl [(h0, .inr (5, [.ref q1, .null, .int 0, .int 0, .int 0])), (q1, .inl (K 0, 80, .inl (fun _ => 0))), (q2, .inl (K 0, 400, .inl (fun _ => 0)))] H := hP
  have hD : va_D A [(h0, .inr (5, [.ref q1, .null, .int 0, .int 0, .int 0])), (q1, .inl (K 0, 80, .inl (fun _ => 0))), (q2, .inl (K 0, 400, .inl (fun _ => 0)))] := hD
  refine va_putF (D := D) (ci := 5) (ty := tyX5 1) (C := RX5) (T := TX5) (N := 5) hx hb hts gclk5.2.2.1 tyX5 gclk5.2.2.2.1 gclk5.2.2.2.2.1 hown hK hP hD hS 0 rfl rfl 1 (by decide) (hts _ (gin_ok (p := 119) (by decide +kernel))) (fun _ h9 => h9) rfl hin rfl (v := .ref q2) (gclk5.2.2.2.1 1 (by decide)) rfl rfl (Nat.le_of_ble_eq_true rfl) dX5_init_18 (fun H locs hP hD hS => ?_)
  have hP : va_P D gCl [(h0, .inr (5, [.ref q1, .ref q2, .int 0, .int 0, .int 0])), (q1, .inl (K 0, 80, .inl (fun _ => 0))), (q2, .inl (K 0, 400, .inl (fun _ => 0)))] H := hP
  have hD : va_D A [(h0, .inr (5, [.ref q1, .ref q2, .int 0, .int 0, .int 0])), (q1, .inl (K 0, 80, .inl (fun _ => 0))), (q2, .inl (K 0, 400, .inl (fun _ => 0)))] := hD
  refine lv_aload_n hx hb dX5_init_21 rfl (lv_at hl 0 rfl) ?_
  refine lv_iconst (v := 0) hx hb dX5_init_22 (by decide) ?_
  refine va_put (D := D) (ci := 5) (ty := tyX5 2) (C := RX5) (T := TX5) (N := 5) hx hb hts gclk5.2.2.1 tyX5 gclk5.2.2.2.1 gclk5.2.2.2.2.1 hown hK hP hD hS 0 rfl rfl 2 (by decide) (hts _ (gin_ok (p := 121) (by decide +kernel))) (fun _ h9 => h9) rfl (v := .int 0) (gclk5.2.2.2.1 2 (by decide)) rfl rfl (Nat.le_of_ble_eq_true rfl) dX5_init_23 (fun H locs hP hD hS => ?_)
  have hP : va_P D gCl [(h0, .inr (5, [.ref q1, .ref q2, .int 0, .int 0, .int 0])), (q1, .inl (K 0, 80, .inl (fun _ => 0))), (q2, .inl (K 0, 400, .inl (fun _ => 0)))] H := hP
  have hD : va_D A [(h0, .inr (5, [.ref q1, .ref q2, .int 0, .int 0, .int 0])), (q1, .inl (K 0, 80, .inl (fun _ => 0))), (q2, .inl (K 0, 400, .inl (fun _ => 0)))] := hD
  refine lv_aload_n hx hb dX5_init_26 rfl (lv_at hl 0 rfl) ?_
  refine lv_iconst (v := 0) hx hb dX5_init_27 (by decide) ?_
  refine va_put (D := D) (ci := 5) (ty := tyX5 3) (C := RX5) (T := TX5) (N := 5) hx hb hts gclk5.2.2.1 tyX5 gclk5.2.2.2.1 gclk5.2.2.2.2.1 hown hK hP hD hS 0 rfl rfl 3 (by decide) (hts _ (gin_ok (p := 123) (by decide +kernel))) (fun _ h9 => h9) rfl (v := .int 0) (gclk5.2.2.2.1 3 (by decide)) rfl rfl (Nat.le_of_ble_eq_true rfl) dX5_init_28 (fun H locs hP hD hS => ?_)
  have hP : va_P D gCl [(h0, .inr (5, [.ref q1, .ref q2, .int 0, .int 0, .int 0])), (q1, .inl (K 0, 80, .inl (fun _ => 0))), (q2, .inl (K 0, 400, .inl (fun _ => 0)))] H := hP
  have hD : va_D A [(h0, .inr (5, [.ref q1, .ref q2, .int 0, .int 0, .int 0])), (q1, .inl (K 0, 80, .inl (fun _ => 0))), (q2, .inl (K 0, 400, .inl (fun _ => 0)))] := hD
  refine lv_aload_n hx hb dX5_init_31 rfl (lv_at hl 0 rfl) ?_
  refine lv_iconst (v := 0) hx hb dX5_init_32 (by decide) ?_
  refine va_put (D := D) (ci := 5) (ty := tyX5 4) (C := RX5) (T := TX5) (N := 5) hx hb hts gclk5.2.2.1 tyX5 gclk5.2.2.2.1 gclk5.2.2.2.2.1 hown hK hP hD hS 0 rfl rfl 4 (by decide) (hts _ (gin_ok (p := 125) (by decide +kernel))) (fun _ h9 => h9) rfl (v := .int 0) (gclk5.2.2.2.1 4 (by decide)) rfl rfl (Nat.le_of_ble_eq_true rfl) dX5_init_33 (fun H locs hP hD hS => ?_)
  have hP : va_P D gCl [(h0, .inr (5, [.ref q1, .ref q2, .int 0, .int 0, .int 0])), (q1, .inl (K 0, 80, .inl (fun _ => 0))), (q2, .inl (K 0, 400, .inl (fun _ => 0)))] H := hP
  have hD : va_D A [(h0, .inr (5, [.ref q1, .ref q2, .int 0, .int 0, .int 0])), (q1, .inl (K 0, 80, .inl (fun _ => 0))), (q2, .inl (K 0, 400, .inl (fun _ => 0)))] := hD
  refine W.widen (k := 2) (n := 480) (by omega) (by omega) ?_
  exact W.vret hx hb hr (fun t ht hW => ⟨⟨[q1, q2], rfl, trivial, by rw [ht]; exact hP, hD⟩, hS.F ht⟩) hS.2.2 dX5_init_36 hlk
theorem dX6_init_0 : decode cX6_init 0 = .ok (.aload_n 0, 1) := by decide +kernel
theorem dX6_init_1 : decode cX6_init 1 = .ok (.invokespecial 3, 3) := by decide +kernel
theorem dX6_init_4 : decode cX6_init 4 = .ok (.aload_n 0, 1) := by decide +kernel
theorem dX6_init_5 : decode cX6_init 5 = .ok (.bipush 64, 2) := by decide +kernel
theorem dX6_init_7 : decode cX6_init 7 = .ok (.newarray .int, 2) := by decide +kernel
theorem dX6_init_9 : decode cX6_init 9 = .ok (.putfield 9, 3) := by decide +kernel
theorem dX6_init_12 : decode cX6_init 12 = .ok (.aload_n 0, 1) := by decide +kernel
theorem dX6_init_13 : decode cX6_init 13 = .ok (.iconst (-1), 1) := by decide +kernel
theorem dX6_init_14 : decode cX6_init 14 = .ok (.putfield 15, 3) := by decide +kernel
theorem dX6_init_17 : decode cX6_init 17 = .ok (.aload_n 0, 1) := by decide +kernel
theorem dX6_init_18 : decode cX6_init 18 = .ok (.iconst 0, 1) := by decide +kernel
theorem dX6_init_19 : decode cX6_init 19 = .ok (.putfield 19, 3) := by decide +kernel
theorem dX6_init_22 : decode cX6_init 22 = .ok (.return_, 1) := by decide +kernel
def cwX6 (K : Nat → ClassId) (h0 : Nat) (u : List Nat) : va_W := [(h0, .inr (6, [.ref (u.getD 0 0), .int (-1), .int 0])), ((u.getD 0 0), .inl (K 0, 64, .inl (fun _ => 0)))]
abbrev ciX6 (h0 : Nat) : va_W := [(h0, .inr (6, [.null, .int 0, .int 0]))]
set_option maxHeartbeats 4000000 in
set_option maxRecDepth 100000 in
theorem c_X6_init (l : Launch) (D : va_G) (K : Nat → ClassId) (h0 sz : Nat) : Met l yX6_init (gws myX6_init) { frames := 1, cells := 1, slots := 64, locals := 12 } (va_Pc [.ref h0] (cPre D K (ciX6 h0) sz)) (va_Qv (fun _ : List Nat => True) (fun u t => va_P D gCl (cwX6 K h0 u) t.heap ∧ va_D (va_A (ciX6 h0) sz) (cwX6 K h0 u)) (va_A (ciX6 h0) sz)) 1 64 (va_A (ciX6 h0) sz) := by
  refine gMet_ofW (cc := cX6_init) (maxL := 1) (ret := none) (by decide) rfl ?_
  intro p e s m args below meth c s₁ B hml hv
  obtain ⟨rfl, hsz, hP, hK⟩ := hv
  have hx := B.exec
  have hb := B.bytes
  have hr := B.returns
  have hts0 := atoms_spec (ws := gws myX6_init) B.pre
  have hts : ∀ w ∈ gWs, w.before #[Value.ref h0] s = true := fun w hw => hts0 w (List.mem_cons_of_mem _ hw)
  have hown : s.vm.findClass RX6 = some m.cls := findClass_of_methodNamed B.named
  have hlk := B.notSynchronized
  have hin : meth.name = "<init>" := (name_of_methodNamed B.named B.method).1
  subst hsz
  have hD : va_D (va_A (ciX6 h0) s.heap.size) (ciX6 h0) := va_D.self (A := fun _ => True) (va_D1 trivial)
  generalize hAe : va_A (ciX6 h0) s.heap.size = A at hD ⊢
  have hA : ∀ q : Nat, s.heap.size ≤ q → A q := fun q h => by rw [← hAe]; exact Or.inr h
  have hS : va_S A s.heap s.heap [] := va_S.rf
  have hl := lv_entry ([.ref h0]) (n := 1) (Nat.le_of_ble_eq_true rfl)
  show W p l e _ s m _ below meth c s.heap [] 0 0 _ (entryFrame m ([Value.ref h0] : List Value).toArray 1)
  rw [lg_entry_eq]
  generalize (lg_sl ([.ref h0]) ++ List.replicate (1 - (lg_sl ([.ref h0])).length) Slot.unset).toArray = ls at hl ⊢
  have hl : lv_has ls 1 [(0, .ref h0)] := hl
  have hP : va_P D gCl [(h0, .inr (6, [.null, .int 0, .int 0]))] s.heap := hP
  have hD : va_D A [(h0, .inr (6, [.null, .int 0, .int 0]))] := hD
  refine lv_aload_n hx hb dX6_init_0 rfl (lv_at hl 0 rfl) ?_
  refine W.objInit hx hb hown (hts _ (gin_ok (p := 187) (by decide +kernel))) (hts _ (gin_ok (p := 59) (by decide +kernel))) (hts _ (gin_ok (p := 60) (by decide +kernel))) rfl (by rw [hml]; exact hl.1) rfl dX6_init_1 (Nat.le_of_ble_eq_true rfl) (Nat.le_of_ble_eq_true rfl) ?_
  refine W.eq (g2 := F0 m 4 ls []) rfl ?_
  refine lv_aload_n hx hb dX6_init_4 rfl (lv_at hl 0 rfl) ?_
  refine lv_bipush (v := 64) hx hb dX6_init_5 (by decide) ?_
  refine cn_newa (atype := .int) (ty := .int) hx hb (hts _ (gin_ok (p := 138) (by decide +kernel))) rfl hK hP hD hS hA 0 (cA0 := K 0) rfl (fun _ h => h) (N' := 64) (a0 := (64, .inl (fun _ => 0))) (fun _ => rfl) (by decide) (by decide) (Nat.le_of_ble_eq_true rfl) (Nat.le_of_ble_eq_true rfl) (Nat.le_of_ble_eq_true rfl) dX6_init_7 (fun q1 H hP hD hS => ?_)
  have hP : va_P D gCl [(h0, .inr (6, [.null, .int 0, .int 0])), (q1, .inl (K 0, 64, .inl (fun _ => 0)))] H := hP
  have hD : va_D A [(h0, .inr (6, [.null, .int 0, .int 0])), (q1, .inl (K 0, 64, .inl (fun _ => 0)))] := hD
  refine va_putF (D := D) (ci := 6) (ty := tyX6 0) (C := RX6) (T := TX6) (N := 3) hx hb hts gclk6.2.2.1 tyX6 gclk6.2.2.2.1 gclk6.2.2.2.2.1 hown hK hP hD hS 0 rfl rfl 0 (by decide) (hts _ (gin_ok (p := 188) (by decide +kernel))) (fun _ h9 => h9) rfl hin rfl (v := .ref q1) (gclk6.2.2.2.1 0 (by decide)) rfl rfl (Nat.le_of_ble_eq_true rfl) dX6_init_9 (fun H locs hP hD hS => ?_)
  have hP : va_P D gCl [(h0, .inr (6, [.ref q1, .int 0, .int 0])), (q1, .inl (K 0, 64, .inl (fun _ => 0)))] H := hP
  have hD : va_D A [(h0, .inr (6, [.ref q1, .int 0, .int 0])), (q1, .inl (K 0, 64, .inl (fun _ => 0)))] := hD
  refine lv_aload_n hx hb dX6_init_12 rfl (lv_at hl 0 rfl) ?_
  refine lv_iconst (v := (-1)) hx hb dX6_init_13 (by decide) ?_
  refine va_put (D := D) (ci := 6) (ty := tyX6 1) (C := RX6) (T := TX6) (N := 3) hx hb hts gclk6.2.2.1 tyX6 gclk6.2.2.2.1 gclk6.2.2.2.2.1 hown hK hP hD hS 0 rfl rfl 1 (by decide) (hts _ (gin_ok (p := 190) (by decide +kernel))) (fun _ h9 => h9) rfl (v := .int (-1)) (gclk6.2.2.2.1 1 (by decide)) rfl rfl (Nat.le_of_ble_eq_true rfl) dX6_init_14 (fun H locs hP hD hS => ?_)
  have hP : va_P D gCl [(h0, .inr (6, [.ref q1, .int (-1), .int 0])), (q1, .inl (K 0, 64, .inl (fun _ => 0)))] H := hP
  have hD : va_D A [(h0, .inr (6, [.ref q1, .int (-1), .int 0])), (q1, .inl (K 0, 64, .inl (fun _ => 0)))] := hD
  refine lv_aload_n hx hb dX6_init_17 rfl (lv_at hl 0 rfl) ?_
  refine lv_iconst (v := 0) hx hb dX6_init_18 (by decide) ?_
  refine va_put (D := D) (ci := 6) (ty := tyX6 2) (C := RX6) (T := TX6) (N := 3) hx hb hts gclk6.2.2.1 tyX6 gclk6.2.2.2.1 gclk6.2.2.2.2.1 hown hK hP hD hS 0 rfl rfl 2 (by decide) (hts _ (gin_ok (p := 192) (by decide +kernel))) (fun _ h9 => h9) rfl (v := .int 0) (gclk6.2.2.2.1 2 (by decide)) rfl rfl (Nat.le_of_ble_eq_true rfl) dX6_init_19 (fun H locs hP hD hS => ?_)
  have hP : va_P D gCl [(h0, .inr (6, [.ref q1, .int (-1), .int 0])), (q1, .inl (K 0, 64, .inl (fun _ => 0)))] H := hP
  have hD : va_D A [(h0, .inr (6, [.ref q1, .int (-1), .int 0])), (q1, .inl (K 0, 64, .inl (fun _ => 0)))] := hD
  refine W.widen (k := 1) (n := 64) (by omega) (by omega) ?_
  exact W.vret hx hb hr (fun t ht hW => ⟨⟨[q1], rfl, trivial, by rw [ht]; exact hP, hD⟩, hS.F ht⟩) hS.2.2 dX6_init_22 hlk
theorem dX7_init_0 : decode cX7_init 0 = .ok (.aload_n 0, 1) := by decide +kernel
theorem dX7_init_1 : decode cX7_init 1 = .ok (.invokespecial 1, 3) := by decide +kernel
theorem dX7_init_4 : decode cX7_init 4 = .ok (.aload_n 0, 1) := by decide +kernel
theorem dX7_init_5 : decode cX7_init 5 = .ok (.sipush 400, 3) := by decide +kernel
theorem dX7_init_8 : decode cX7_init 8 = .ok (.newarray .byte, 2) := by decide +kernel
theorem dX7_init_10 : decode cX7_init 10 = .ok (.putfield 9, 3) := by decide +kernel
theorem dX7_init_13 : decode cX7_init 13 = .ok (.aload_n 0, 1) := by decide +kernel
theorem dX7_init_14 : decode cX7_init 14 = .ok (.iconst 0, 1) := by decide +kernel
theorem dX7_init_15 : decode cX7_init 15 = .ok (.putfield 13, 3) := by decide +kernel
theorem dX7_init_18 : decode cX7_init 18 = .ok (.aload_n 0, 1) := by decide +kernel
theorem dX7_init_19 : decode cX7_init 19 = .ok (.iconst 0, 1) := by decide +kernel
theorem dX7_init_20 : decode cX7_init 20 = .ok (.putfield 17, 3) := by decide +kernel
theorem dX7_init_23 : decode cX7_init 23 = .ok (.aload_n 0, 1) := by decide +kernel
theorem dX7_init_24 : decode cX7_init 24 = .ok (.iconst 0, 1) := by decide +kernel
theorem dX7_init_25 : decode cX7_init 25 = .ok (.putfield 20, 3) := by decide +kernel
theorem dX7_init_28 : decode cX7_init 28 = .ok (.aload_n 0, 1) := by decide +kernel
theorem dX7_init_29 : decode cX7_init 29 = .ok (.iconst 0, 1) := by decide +kernel
theorem dX7_init_30 : decode cX7_init 30 = .ok (.putfield 23, 3) := by decide +kernel
theorem dX7_init_33 : decode cX7_init 33 = .ok (.aload_n 0, 1) := by decide +kernel
theorem dX7_init_34 : decode cX7_init 34 = .ok (.iconst 0, 1) := by decide +kernel
theorem dX7_init_35 : decode cX7_init 35 = .ok (.putfield 26, 3) := by decide +kernel
theorem dX7_init_38 : decode cX7_init 38 = .ok (.return_, 1) := by decide +kernel
def cwX7 (K : Nat → ClassId) (h0 : Nat) (u : List Nat) : va_W := [(h0, .inr (7, [.ref (u.getD 0 0), .int 0, .int 0, .int 0, .int 0, .int 0])), ((u.getD 0 0), .inl (K 1, 400, .inl (fun _ => 0)))]
abbrev ciX7 (h0 : Nat) : va_W := [(h0, .inr (7, [.null, .int 0, .int 0, .int 0, .int 0, .int 0]))]
set_option maxHeartbeats 4000000 in
set_option maxRecDepth 100000 in
theorem c_X7_init (l : Launch) (D : va_G) (K : Nat → ClassId) (h0 sz : Nat) : Met l yX7_init (gws myX7_init) { frames := 1, cells := 1, slots := 400, locals := 12 } (va_Pc [.ref h0] (cPre D K (ciX7 h0) sz)) (va_Qv (fun _ : List Nat => True) (fun u t => va_P D gCl (cwX7 K h0 u) t.heap ∧ va_D (va_A (ciX7 h0) sz) (cwX7 K h0 u)) (va_A (ciX7 h0) sz)) 1 400 (va_A (ciX7 h0) sz) := by
  refine gMet_ofW (cc := cX7_init) (maxL := 1) (ret := none) (by decide) rfl ?_
  intro p e s m args below meth c s₁ B hml hv
  obtain ⟨rfl, hsz, hP, hK⟩ := hv
  have hx := B.exec
  have hb := B.bytes
  have hr := B.returns
  have hts0 := atoms_spec (ws := gws myX7_init) B.pre
  have hts : ∀ w ∈ gWs, w.before #[Value.ref h0] s = true := fun w hw => hts0 w (List.mem_cons_of_mem _ hw)
  have hown : s.vm.findClass RX7 = some m.cls := findClass_of_methodNamed B.named
  have hlk := B.notSynchronized
  have hin : meth.name = "<init>" := (name_of_methodNamed B.named B.method).1
  subst hsz
  have hD : va_D (va_A (ciX7 h0) s.heap.size) (ciX7 h0) := va_D.self (A := fun _ => True) (va_D1 trivial)
  generalize hAe : va_A (ciX7 h0) s.heap.size = A at hD ⊢
  have hA : ∀ q : Nat, s.heap.size ≤ q → A q := fun q h => by rw [← hAe]; exact Or.inr h
  have hS : va_S A s.heap s.heap [] := va_S.rf
  have hl := lv_entry ([.ref h0]) (n := 1) (Nat.le_of_ble_eq_true rfl)
  show W p l e _ s m _ below meth c s.heap [] 0 0 _ (entryFrame m ([Value.ref h0] : List Value).toArray 1)
  rw [lg_entry_eq]
  generalize (lg_sl ([.ref h0]) ++ List.replicate (1 - (lg_sl ([.ref h0])).length) Slot.unset).toArray = ls at hl ⊢
  have hl : lv_has ls 1 [(0, .ref h0)] := hl
  have hP : va_P D gCl [(h0, .inr (7, [.null, .int 0, .int 0, .int 0, .int 0, .int 0]))] s.heap := hP
  have hD : va_D A [(h0, .inr (7, [.null, .int 0, .int 0, .int 0, .int 0, .int 0]))] := hD
  refine lv_aload_n hx hb dX7_init_0 rfl (lv_at hl 0 rfl) ?_
  refine W.objInit hx hb hown (hts _ (gin_ok (p := 86) (by decide +kernel))) (hts _ (gin_ok (p := 59) (by decide +kernel))) (hts _ (gin_ok (p := 60) (by decide +kernel))) rfl (by rw [hml]; exact hl.1) rfl dX7_init_1 (Nat.le_of_ble_eq_true rfl) (Nat.le_of_ble_eq_true rfl) ?_
  refine W.eq (g2 := F0 m 4 ls []) rfl ?_
  refine lv_aload_n hx hb dX7_init_4 rfl (lv_at hl 0 rfl) ?_
  refine lv_sipush (v := 400) hx hb dX7_init_5 (by decide) ?_
  refine cn_newa (atype := .byte) (ty := .byte) hx hb (hts _ (gin_ok (p := 110) (by decide +kernel))) rfl hK hP hD hS hA 1 (cA0 := K 1) rfl (fun _ h => h) (N' := 400) (a0 := (400, .inl (fun _ => 0))) (fun _ => rfl) (by decide) (by decide) (Nat.le_of_ble_eq_true rfl) (Nat.le_of_ble_eq_true rfl) (Nat.le_of_ble_eq_true rfl) dX7_init_8 (fun q1 H hP hD hS => ?_)
  have hP : va_P D gCl [(h0, .inr (7, [.null, .int 0, .int 0, .int 0, .int 0, .int 0])), (q1, .inl (K 1, 400, .inl (fun _ => 0)))] H := hP
  have hD : va_D A [(h0, .inr (7, [.null, .int 0, .int 0, .int 0, .int 0, .int 0])), (q1, .inl (K 1, 400, .inl (fun _ => 0)))] := hD
  refine va_putF (D := D) (ci := 7) (ty := tyX7 0) (C := RX7) (T := TX7) (N := 6) hx hb hts gclk7.2.2.1 tyX7 gclk7.2.2.2.1 gclk7.2.2.2.2.1 hown hK hP hD hS 0 rfl rfl 0 (by decide) (hts _ (gin_ok (p := 87) (by decide +kernel))) (fun _ h9 => h9) rfl hin rfl (v := .ref q1) (gclk7.2.2.2.1 0 (by decide)) rfl rfl (Nat.le_of_ble_eq_true rfl) dX7_init_10 (fun H locs hP hD hS => ?_)
  have hP : va_P D gCl [(h0, .inr (7, [.ref q1, .int 0, .int 0, .int 0, .int 0, .int 0])), (q1, .inl (K 1, 400, .inl (fun _ => 0)))] H := hP
  have hD : va_D A [(h0, .inr (7, [.ref q1, .int 0, .int 0, .int 0, .int 0, .int 0])), (q1, .inl (K 1, 400, .inl (fun _ => 0)))] := hD
  refine lv_aload_n hx hb dX7_init_13 rfl (lv_at hl 0 rfl) ?_
  refine lv_iconst (v := 0) hx hb dX7_init_14 (by decide) ?_
  refine va_put (D := D) (ci := 7) (ty := tyX7 1) (C := RX7) (T := TX7) (N := 6) hx hb hts gclk7.2.2.1 tyX7 gclk7.2.2.2.1 gclk7.2.2.2.2.1 hown hK hP hD hS 0 rfl rfl 1 (by decide) (hts _ (gin_ok (p := 88) (by decide +kernel))) (fun _ h9 => h9) rfl (v := .int 0) (gclk7.2.2.2.1 1 (by decide)) rfl rfl (Nat.le_of_ble_eq_true rfl) dX7_init_15 (fun H locs hP hD hS => ?_)
  have hP : va_P D gCl [(h0, .inr (7, [.ref q1, .int 0, .int 0, .int 0, .int 0, .int 0])), (q1, .inl (K 1, 400, .inl (fun _ => 0)))] H := hP
  have hD : va_D A [(h0, .inr (7, [.ref q1, .int 0, .int 0, .int 0, .int 0, .int 0])), (q1, .inl (K 1, 400, .inl (fun _ => 0)))] := hD
  refine lv_aload_n hx hb dX7_init_18 rfl (lv_at hl 0 rfl) ?_
  refine lv_iconst (v := 0) hx hb dX7_init_19 (by decide) ?_
  refine va_put (D := D) (ci := 7) (ty := tyX7 2) (C := RX7) (T := TX7) (N := 6) hx hb hts gclk7.2.2.1 tyX7 gclk7.2.2.2.1 gclk7.2.2.2.2.1 hown hK hP hD hS 0 rfl rfl 2 (by decide) (hts _ (gin_ok (p := 90) (by decide +kernel))) (fun _ h9 => h9) rfl (v := .int 0) (gclk7.2.2.2.1 2 (by decide)) rfl rfl (Nat.le_of_ble_eq_true rfl) dX7_init_20 (fun H locs hP hD hS => ?_)
  have hP : va_P D gCl [(h0, .inr (7, [.ref q1, .int 0, .int 0, .int 0, .int 0, .int 0])), (q1, .inl (K 1, 400, .inl (fun _ => 0)))] H := hP
  have hD : va_D A [(h0, .inr (7, [.ref q1, .int 0, .int 0, .int 0, .int 0, .int 0])), (q1, .inl (K 1, 400, .inl (fun _ => 0)))] := hD
  refine lv_aload_n hx hb dX7_init_23 rfl (lv_at hl 0 rfl) ?_
  refine lv_iconst (v := 0) hx hb dX7_init_24 (by decide) ?_
  refine va_put (D := D) (ci := 7) (ty := tyX7 3) (C := RX7) (T := TX7) (N := 6) hx hb hts gclk7.2.2.1 tyX7 gclk7.2.2.2.1 gclk7.2.2.2.2.1 hown hK hP hD hS 0 rfl rfl 3 (by decide) (hts _ (gin_ok (p := 92) (by decide +kernel))) (fun _ h9 => h9) rfl (v := .int 0) (gclk7.2.2.2.1 3 (by decide)) rfl rfl (Nat.le_of_ble_eq_true rfl) dX7_init_25 (fun H locs hP hD hS => ?_)
  have hP : va_P D gCl [(h0, .inr (7, [.ref q1, .int 0, .int 0, .int 0, .int 0, .int 0])), (q1, .inl (K 1, 400, .inl (fun _ => 0)))] H := hP
  have hD : va_D A [(h0, .inr (7, [.ref q1, .int 0, .int 0, .int 0, .int 0, .int 0])), (q1, .inl (K 1, 400, .inl (fun _ => 0)))] := hD
  refine lv_aload_n hx hb dX7_init_28 rfl (lv_at hl 0 rfl) ?_
  refine lv_iconst (v := 0) hx hb dX7_init_29 (by decide) ?_
  refine va_put (D := D) (ci := 7) (ty := tyX7 4) (C := RX7) (T := TX7) (N := 6) hx hb hts gclk7.2.2.1 tyX7 gclk7.2.2.2.1 gclk7.2.2.2.2.1 hown hK hP hD hS 0 rfl rfl 4 (by decide) (hts _ (gin_ok (p := 93) (by decide +kernel))) (fun _ h9 => h9) rfl (v := .int 0) (gclk7.2.2.2.1 4 (by decide)) rfl rfl (Nat.le_of_ble_eq_true rfl) dX7_init_30 (fun H locs hP hD hS => ?_)
  have hP : va_P D gCl [(h0, .inr (7, [.ref q1, .int 0, .int 0, .int 0, .int 0, .int 0])), (q1, .inl (K 1, 400, .inl (fun _ => 0)))] H := hP
  have hD : va_D A [(h0, .inr (7, [.ref q1, .int 0, .int 0, .int 0, .int 0, .int 0])), (q1, .inl (K 1, 400, .inl (fun _ => 0)))] := hD
  refine lv_aload_n hx hb dX7_init_33 rfl (lv_at hl 0 rfl) ?_
  refine lv_iconst (v := 0) hx hb dX7_init_34 (by decide) ?_
  refine va_put (D := D) (ci := 7) (ty := tyX7 5) (C := RX7) (T := TX7) (N := 6) hx hb hts gclk7.2.2.1 tyX7 gclk7.2.2.2.1 gclk7.2.2.2.2.1 hown hK hP hD hS 0 rfl rfl 5 (by decide) (hts _ (gin_ok (p := 95) (by decide +kernel))) (fun _ h9 => h9) rfl (v := .int 0) (gclk7.2.2.2.1 5 (by decide)) rfl rfl (Nat.le_of_ble_eq_true rfl) dX7_init_35 (fun H locs hP hD hS => ?_)
  have hP : va_P D gCl [(h0, .inr (7, [.ref q1, .int 0, .int 0, .int 0, .int 0, .int 0])), (q1, .inl (K 1, 400, .inl (fun _ => 0)))] H := hP
  have hD : va_D A [(h0, .inr (7, [.ref q1, .int 0, .int 0, .int 0, .int 0, .int 0])), (q1, .inl (K 1, 400, .inl (fun _ => 0)))] := hD
  refine W.widen (k := 1) (n := 400) (by omega) (by omega) ?_
  exact W.vret hx hb hr (fun t ht hW => ⟨⟨[q1], rfl, trivial, by rw [ht]; exact hP, hD⟩, hS.F ht⟩) hS.2.2 dX7_init_38 hlk
theorem dX8_init_0 : decode cX8_init 0 = .ok (.aload_n 0, 1) := by decide +kernel
theorem dX8_init_1 : decode cX8_init 1 = .ok (.invokespecial 3, 3) := by decide +kernel
theorem dX8_init_4 : decode cX8_init 4 = .ok (.aload_n 0, 1) := by decide +kernel
theorem dX8_init_5 : decode cX8_init 5 = .ok (.bipush 16, 2) := by decide +kernel
theorem dX8_init_7 : decode cX8_init 7 = .ok (.newarray .int, 2) := by decide +kernel
theorem dX8_init_9 : decode cX8_init 9 = .ok (.putfield 9, 3) := by decide +kernel
theorem dX8_init_12 : decode cX8_init 12 = .ok (.aload_n 0, 1) := by decide +kernel
theorem dX8_init_13 : decode cX8_init 13 = .ok (.bipush 16, 2) := by decide +kernel
theorem dX8_init_15 : decode cX8_init 15 = .ok (.newarray .int, 2) := by decide +kernel
theorem dX8_init_17 : decode cX8_init 17 = .ok (.putfield 15, 3) := by decide +kernel
theorem dX8_init_20 : decode cX8_init 20 = .ok (.return_, 1) := by decide +kernel
def cwX8 (K : Nat → ClassId) (h0 : Nat) (u : List Nat) : va_W := [(h0, .inr (8, [.ref (u.getD 0 0), .ref (u.getD 1 0)])), ((u.getD 0 0), .inl (K 0, 16, .inl (fun _ => 0))), ((u.getD 1 0), .inl (K 0, 16, .inl (fun _ => 0)))]
abbrev ciX8 (h0 : Nat) : va_W := [(h0, .inr (8, [.null, .null]))]
set_option maxHeartbeats 4000000 in
set_option maxRecDepth 100000 in
theorem c_X8_init (l : Launch) (D : va_G) (K : Nat → ClassId) (h0 sz : Nat) : Met l yX8_init (gws myX8_init) { frames := 1, cells := 2, slots := 32, locals := 12 } (va_Pc [.ref h0] (cPre D K (ciX8 h0) sz)) (va_Qv (fun _ : List Nat => True) (fun u t => va_P D gCl (cwX8 K h0 u) t.heap ∧ va_D (va_A (ciX8 h0) sz) (cwX8 K h0 u)) (va_A (ciX8 h0) sz)) 2 32 (va_A (ciX8 h0) sz) := by
  refine gMet_ofW (cc := cX8_init) (maxL := 1) (ret := none) (by decide) rfl ?_
  intro p e s m args below meth c s₁ B hml hv
  obtain ⟨rfl, hsz, hP, hK⟩ := hv
  have hx := B.exec
  have hb := B.bytes
  have hr := B.returns
  have hts0 := atoms_spec (ws := gws myX8_init) B.pre
  have hts : ∀ w ∈ gWs, w.before #[Value.ref h0] s = true := fun w hw => hts0 w (List.mem_cons_of_mem _ hw)
  have hown : s.vm.findClass RX8 = some m.cls := findClass_of_methodNamed B.named
  have hlk := B.notSynchronized
  have hin : meth.name = "<init>" := (name_of_methodNamed B.named B.method).1
  subst hsz
  have hD : va_D (va_A (ciX8 h0) s.heap.size) (ciX8 h0) := va_D.self (A := fun _ => True) (va_D1 trivial)
  generalize hAe : va_A (ciX8 h0) s.heap.size = A at hD ⊢
  have hA : ∀ q : Nat, s.heap.size ≤ q → A q := fun q h => by rw [← hAe]; exact Or.inr h
  have hS : va_S A s.heap s.heap [] := va_S.rf
  have hl := lv_entry ([.ref h0]) (n := 1) (Nat.le_of_ble_eq_true rfl)
  show W p l e _ s m _ below meth c s.heap [] 0 0 _ (entryFrame m ([Value.ref h0] : List Value).toArray 1)
  rw [lg_entry_eq]
  generalize (lg_sl ([.ref h0]) ++ List.replicate (1 - (lg_sl ([.ref h0])).length) Slot.unset).toArray = ls at hl ⊢
  have hl : lv_has ls 1 [(0, .ref h0)] := hl
  have hP : va_P D gCl [(h0, .inr (8, [.null, .null]))] s.heap := hP
  have hD : va_D A [(h0, .inr (8, [.null, .null]))] := hD
  refine lv_aload_n hx hb dX8_init_0 rfl (lv_at hl 0 rfl) ?_
  refine W.objInit hx hb hown (hts _ (gin_ok (p := 205) (by decide +kernel))) (hts _ (gin_ok (p := 59) (by decide +kernel))) (hts _ (gin_ok (p := 60) (by decide +kernel))) rfl (by rw [hml]; exact hl.1) rfl dX8_init_1 (Nat.le_of_ble_eq_true rfl) (Nat.le_of_ble_eq_true rfl) ?_
  refine W.eq (g2 := F0 m 4 ls []) rfl ?_
  refine lv_aload_n hx hb dX8_init_4 rfl (lv_at hl 0 rfl) ?_
  refine lv_bipush (v := 16) hx hb dX8_init_5 (by decide) ?_
  refine cn_newa (atype := .int) (ty := .int) hx hb (hts _ (gin_ok (p := 138) (by decide +kernel))) rfl hK hP hD hS hA 0 (cA0 := K 0) rfl (fun _ h => h) (N' := 16) (a0 := (16, .inl (fun _ => 0))) (fun _ => rfl) (by decide) (by decide) (Nat.le_of_ble_eq_true rfl) (Nat.le_of_ble_eq_true rfl) (Nat.le_of_ble_eq_true rfl) dX8_init_7 (fun q1 H hP hD hS => ?_)
  have hP : va_P D gCl [(h0, .inr (8, [.null, .null])), (q1, .inl (K 0, 16, .inl (fun _ => 0)))] H := hP
  have hD : va_D A [(h0, .inr (8, [.null, .null])), (q1, .inl (K 0, 16, .inl (fun _ => 0)))] := hD
  refine va_putF (D := D) (ci := 8) (ty := tyX8 0) (C := RX8) (T := TX8) (N := 2) hx hb hts gclk8.2.2.1 tyX8 gclk8.2.2.2.1 gclk8.2.2.2.2.1 hown hK hP hD hS 0 rfl rfl 0 (by decide) (hts _ (gin_ok (p := 206) (by decide +kernel))) (fun _ h9 => h9) rfl hin rfl (v := .ref q1) (gclk8.2.2.2.1 0 (by decide)) rfl rfl (Nat.le_of_ble_eq_true rfl) dX8_init_9 (fun H locs hP hD hS => ?_)
  have hP : va_P D gCl [(h0, .inr (8, [.ref q1, .null])), (q1, .inl (K 0, 16, .inl (fun _ => 0)))] H := hP
  have hD : va_D A [(h0, .inr (8, [.ref q1, .null])), (q1, .inl (K 0, 16, .inl (fun _ => 0)))] := hD
  refine lv_aload_n hx hb dX8_init_12 rfl (lv_at hl 0 rfl) ?_
  refine lv_bipush (v := 16) hx hb dX8_init_13 (by decide) ?_
  refine cn_newa (atype := .int) (ty := .int) hx hb (hts _ (gin_ok (p := 138) (by decide +kernel))) rfl hK hP hD hS hA 0 (cA0 := K 0) rfl (fun _ h => h) (N' := 16) (a0 := (16, .inl (fun _ => 0))) (fun _ => rfl) (by decide) (by decide) (Nat.le_of_ble_eq_true rfl) (Nat.le_of_ble_eq_true rfl) (Nat.le_of_ble_eq_true rfl) dX8_init_15 (fun q2 H hP hD hS => ?_)
  have hP : va_P D gCl [(h0, .inr (8, [.ref q1, .null])), (q1, .inl (K 0, 16, .inl (fun _ => 0))), (q2, .inl (K 0, 16, .inl (fun _ => 0)))] H := hP
  have hD : va_D A [(h0, .inr (8, [.ref q1, .null])), (q1, .inl (K 0, 16, .inl (fun _ => 0))), (q2, .inl (K 0, 16, .inl (fun _ => 0)))] := hD
  refine va_putF (D := D) (ci := 8) (ty := tyX8 1) (C := RX8) (T := TX8) (N := 2) hx hb hts gclk8.2.2.1 tyX8 gclk8.2.2.2.1 gclk8.2.2.2.2.1 hown hK hP hD hS 0 rfl rfl 1 (by decide) (hts _ (gin_ok (p := 210) (by decide +kernel))) (fun _ h9 => h9) rfl hin rfl (v := .ref q2) (gclk8.2.2.2.1 1 (by decide)) rfl rfl (Nat.le_of_ble_eq_true rfl) dX8_init_17 (fun H locs hP hD hS => ?_)
  have hP : va_P D gCl [(h0, .inr (8, [.ref q1, .ref q2])), (q1, .inl (K 0, 16, .inl (fun _ => 0))), (q2, .inl (K 0, 16, .inl (fun _ => 0)))] H := hP
  have hD : va_D A [(h0, .inr (8, [.ref q1, .ref q2])), (q1, .inl (K 0, 16, .inl (fun _ => 0))), (q2, .inl (K 0, 16, .inl (fun _ => 0)))] := hD
  refine W.widen (k := 2) (n := 32) (by omega) (by omega) ?_
  exact W.vret hx hb hr (fun t ht hW => ⟨⟨[q1, q2], rfl, trivial, by rw [ht]; exact hP, hD⟩, hS.F ht⟩) hS.2.2 dX8_init_20 hlk
