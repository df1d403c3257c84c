/-! THE CONSTRUCTOR of GrainWaves -/
theorem dX9_init_0 : decode cX9_init 0 = .ok (.aload_n 0, 1) := by decide +kernel
theorem dX9_init_1 : decode cX9_init 1 = .ok (.invokespecial 3, 3) := by decide +kernel
theorem dX9_init_4 : decode cX9_init 4 = .ok (.aload_n 0, 1) := by decide +kernel
theorem dX9_init_5 : decode cX9_init 5 = .ok (.bipush 8, 2) := by decide +kernel
theorem dX9_init_7 : decode cX9_init 7 = .ok (.anewarray 9, 3) := by decide +kernel
theorem dX9_init_10 : decode cX9_init 10 = .ok (.putfield 11, 3) := by decide +kernel
theorem dX9_init_13 : decode cX9_init 13 = .ok (.aload_n 0, 1) := by decide +kernel
theorem dX9_init_14 : decode cX9_init 14 = .ok (.bipush 8, 2) := by decide +kernel
theorem dX9_init_16 : decode cX9_init 16 = .ok (.anewarray 15, 3) := by decide +kernel
theorem dX9_init_19 : decode cX9_init 19 = .ok (.putfield 17, 3) := by decide +kernel
theorem dX9_init_22 : decode cX9_init 22 = .ok (.aload_n 0, 1) := by decide +kernel
theorem dX9_init_23 : decode cX9_init 23 = .ok (.bipush 6, 2) := by decide +kernel
theorem dX9_init_25 : decode cX9_init 25 = .ok (.anewarray 21, 3) := by decide +kernel
theorem dX9_init_28 : decode cX9_init 28 = .ok (.putfield 23, 3) := by decide +kernel
theorem dX9_init_31 : decode cX9_init 31 = .ok (.aload_n 0, 1) := by decide +kernel
theorem dX9_init_32 : decode cX9_init 32 = .ok (.new 27, 3) := by decide +kernel
theorem dX9_init_35 : decode cX9_init 35 = .ok (.dup, 1) := by decide +kernel
theorem dX9_init_36 : decode cX9_init 36 = .ok (.invokespecial 29, 3) := by decide +kernel
theorem dX9_init_39 : decode cX9_init 39 = .ok (.putfield 30, 3) := by decide +kernel
theorem dX9_init_42 : decode cX9_init 42 = .ok (.aload_n 0, 1) := by decide +kernel
theorem dX9_init_43 : decode cX9_init 43 = .ok (.new 34, 3) := by decide +kernel
theorem dX9_init_46 : decode cX9_init 46 = .ok (.dup, 1) := by decide +kernel
theorem dX9_init_47 : decode cX9_init 47 = .ok (.invokespecial 36, 3) := by decide +kernel
theorem dX9_init_50 : decode cX9_init 50 = .ok (.putfield 37, 3) := by decide +kernel
theorem dX9_init_53 : decode cX9_init 53 = .ok (.aload_n 0, 1) := by decide +kernel
theorem dX9_init_54 : decode cX9_init 54 = .ok (.new 41, 3) := by decide +kernel
theorem dX9_init_57 : decode cX9_init 57 = .ok (.dup, 1) := by decide +kernel
theorem dX9_init_58 : decode cX9_init 58 = .ok (.invokespecial 43, 3) := by decide +kernel
theorem dX9_init_61 : decode cX9_init 61 = .ok (.putfield 44, 3) := by decide +kernel
theorem dX9_init_64 : decode cX9_init 64 = .ok (.aload_n 0, 1) := by decide +kernel
theorem dX9_init_65 : decode cX9_init 65 = .ok (.new 48, 3) := by decide +kernel
theorem dX9_init_68 : decode cX9_init 68 = .ok (.dup, 1) := by decide +kernel
theorem dX9_init_69 : decode cX9_init 69 = .ok (.invokespecial 50, 3) := by decide +kernel
theorem dX9_init_72 : decode cX9_init 72 = .ok (.putfield 51, 3) := by decide +kernel
theorem dX9_init_75 : decode cX9_init 75 = .ok (.aload_n 0, 1) := by decide +kernel
theorem dX9_init_76 : decode cX9_init 76 = .ok (.new 55, 3) := by decide +kernel
theorem dX9_init_79 : decode cX9_init 79 = .ok (.dup, 1) := by decide +kernel
theorem dX9_init_80 : decode cX9_init 80 = .ok (.invokespecial 57, 3) := by decide +kernel
theorem dX9_init_83 : decode cX9_init 83 = .ok (.putfield 58, 3) := by decide +kernel
theorem dX9_init_86 : decode cX9_init 86 = .ok (.aload_n 0, 1) := by decide +kernel
theorem dX9_init_87 : decode cX9_init 87 = .ok (.new 62, 3) := by decide +kernel
theorem dX9_init_90 : decode cX9_init 90 = .ok (.dup, 1) := by decide +kernel
theorem dX9_init_91 : decode cX9_init 91 = .ok (.invokespecial 64, 3) := by decide +kernel
theorem dX9_init_94 : decode cX9_init 94 = .ok (.putfield 65, 3) := by decide +kernel
theorem dX9_init_97 : decode cX9_init 97 = .ok (.aload_n 0, 1) := by decide +kernel
theorem dX9_init_98 : decode cX9_init 98 = .ok (.iconst 0, 1) := by decide +kernel
theorem dX9_init_99 : decode cX9_init 99 = .ok (.putfield 69, 3) := by decide +kernel
theorem dX9_init_102 : decode cX9_init 102 = .ok (.aload_n 0, 1) := by decide +kernel
theorem dX9_init_103 : decode cX9_init 103 = .ok (.iconst 0, 1) := by decide +kernel
theorem dX9_init_104 : decode cX9_init 104 = .ok (.putfield 73, 3) := by decide +kernel
theorem dX9_init_107 : decode cX9_init 107 = .ok (.iconst 0, 1) := by decide +kernel
theorem dX9_init_108 : decode cX9_init 108 = .ok (.istore_n 1, 1) := by decide +kernel
theorem dX9_init_109 : decode cX9_init 109 = .ok (.iload_n 1, 1) := by decide +kernel
theorem dX9_init_110 : decode cX9_init 110 = .ok (.bipush 8, 2) := by decide +kernel
theorem dX9_init_112 : decode cX9_init 112 = .ok (.if_icmp .ge 22, 3) := by decide +kernel
theorem dX9_init_115 : decode cX9_init 115 = .ok (.aload_n 0, 1) := by decide +kernel
theorem dX9_init_116 : decode cX9_init 116 = .ok (.getfield 11, 3) := by decide +kernel
theorem dX9_init_119 : decode cX9_init 119 = .ok (.iload_n 1, 1) := by decide +kernel
theorem dX9_init_120 : decode cX9_init 120 = .ok (.new 9, 3) := by decide +kernel
theorem dX9_init_123 : decode cX9_init 123 = .ok (.dup, 1) := by decide +kernel
theorem dX9_init_124 : decode cX9_init 124 = .ok (.invokespecial 76, 3) := by decide +kernel
theorem dX9_init_127 : decode cX9_init 127 = .ok (.aastore, 1) := by decide +kernel
theorem dX9_init_128 : decode cX9_init 128 = .ok (.iinc 1 1, 3) := by decide +kernel
theorem dX9_init_131 : decode cX9_init 131 = .ok (.goto (-22), 3) := by decide +kernel
theorem dX9_init_134 : decode cX9_init 134 = .ok (.iconst 0, 1) := by decide +kernel
theorem dX9_init_135 : decode cX9_init 135 = .ok (.istore_n 1, 1) := by decide +kernel
theorem dX9_init_136 : decode cX9_init 136 = .ok (.iload_n 1, 1) := by decide +kernel
theorem dX9_init_137 : decode cX9_init 137 = .ok (.bipush 8, 2) := by decide +kernel
theorem dX9_init_139 : decode cX9_init 139 = .ok (.if_icmp .ge 22, 3) := by decide +kernel
theorem dX9_init_142 : decode cX9_init 142 = .ok (.aload_n 0, 1) := by decide +kernel
theorem dX9_init_143 : decode cX9_init 143 = .ok (.getfield 17, 3) := by decide +kernel
theorem dX9_init_146 : decode cX9_init 146 = .ok (.iload_n 1, 1) := by decide +kernel
theorem dX9_init_147 : decode cX9_init 147 = .ok (.new 15, 3) := by decide +kernel
theorem dX9_init_150 : decode cX9_init 150 = .ok (.dup, 1) := by decide +kernel
theorem dX9_init_151 : decode cX9_init 151 = .ok (.invokespecial 77, 3) := by decide +kernel
theorem dX9_init_154 : decode cX9_init 154 = .ok (.aastore, 1) := by decide +kernel
theorem dX9_init_155 : decode cX9_init 155 = .ok (.iinc 1 1, 3) := by decide +kernel
theorem dX9_init_158 : decode cX9_init 158 = .ok (.goto (-22), 3) := by decide +kernel
theorem dX9_init_161 : decode cX9_init 161 = .ok (.iconst 0, 1) := by decide +kernel
theorem dX9_init_162 : decode cX9_init 162 = .ok (.istore_n 1, 1) := by decide +kernel
theorem dX9_init_163 : decode cX9_init 163 = .ok (.iload_n 1, 1) := by decide +kernel
theorem dX9_init_164 : decode cX9_init 164 = .ok (.bipush 6, 2) := by decide +kernel
theorem dX9_init_166 : decode cX9_init 166 = .ok (.if_icmp .ge 22, 3) := by decide +kernel
theorem dX9_init_169 : decode cX9_init 169 = .ok (.aload_n 0, 1) := by decide +kernel
theorem dX9_init_170 : decode cX9_init 170 = .ok (.getfield 23, 3) := by decide +kernel
theorem dX9_init_173 : decode cX9_init 173 = .ok (.iload_n 1, 1) := by decide +kernel
theorem dX9_init_174 : decode cX9_init 174 = .ok (.new 21, 3) := by decide +kernel
theorem dX9_init_177 : decode cX9_init 177 = .ok (.dup, 1) := by decide +kernel
theorem dX9_init_178 : decode cX9_init 178 = .ok (.invokespecial 78, 3) := by decide +kernel
theorem dX9_init_181 : decode cX9_init 181 = .ok (.aastore, 1) := by decide +kernel
theorem dX9_init_182 : decode cX9_init 182 = .ok (.iinc 1 1, 3) := by decide +kernel
theorem dX9_init_185 : decode cX9_init 185 = .ok (.goto (-22), 3) := by decide +kernel
theorem dX9_init_188 : decode cX9_init 188 = .ok (.return_, 1) := by decide +kernel
theorem nd_of : ∀ {l : List Nat}, l.Nodup → va_nd l = true
  | [], _ => rfl
  | a :: l, h => by
    rw [List.nodup_cons] at h
    show (decide (a ∉ l) && va_nd l) = true
    rw [Bool.and_eq_true]
    exact ⟨decide_eq_true h.1, nd_of h.2⟩
theorem cj_last {ws : va_W} {x : Nat × va_E} : [ws.length].map (fun i => (ws ++ [x])[i]?) = [x].map some := by
  show [(ws ++ [x])[ws.length]?] = [some x]
  rw [List.getElem?_append_right (Nat.le_refl _), Nat.sub_self]
  rfl
theorem cj_join {A0 : Nat → Prop} {D : va_G} {cl : List vw_C} {ws w1 : va_W} {x : Nat × va_E} {H H1 : Heap} (hP : va_P D cl (ws ++ [x]) H) (hD : va_D A0 (ws ++ [x])) (hk : ∀ q : Nat, q < H.size → ¬ va_A [x] H.size q → H1[q]? = H[q]?) (hF : ∀ q, va_A [x] H.size q → A0 q) (hP1 : va_P D cl w1 H1) (hD1 : va_D (va_A [x] H.size) w1) : va_P D cl (ws ++ w1) H1 ∧ va_D A0 (ws ++ w1) := by
  refine va_join hP hD [ws.length] (List.range ws.length) cj_last ?_ (nd_of List.nodup_range) (fun i hi => ?_) hk hF hP1 hD1
  · apply List.ext_getElem?
    intro k
    rw [List.getElem?_map, List.getElem?_map]
    by_cases h : k < ws.length
    · rw [List.getElem?_range h]
      show some ((ws ++ [x])[k]?) = (ws[k]?).map some
      rw [List.getElem?_append_left h, List.getElem?_eq_getElem h]
      rfl
    · rw [List.getElem?_eq_none (by rw [List.length_range]; omega), List.getElem?_eq_none (by omega)]
      rfl
  · rw [List.mem_range] at hi
    intro z
    rw [List.mem_singleton] at z
    omega
def cNL : List (Nat × MethodName) := [(29, yX1_init), (36, yX7_init), (43, yX5_init), (50, yX4_init), (57, yX2_init), (64, yX0_init), (76, yX6_init), (77, yX8_init), (78, yX3_init)]
def cNest (U : State) : Prop := (∀ q ∈ cNL, va_Nw (.methodLinkNest RX9 q.1 q.2 "GrainWaves") U) ∧ va_AO RX6 U ∧ va_AO RX8 U ∧ va_AO RX3 U
section CTOR
variable {p : Program} {l : Launch} {e : Env} {R : Room} {s : State} {m : MethodId} {args : Array Value} {below : List Frame} {meth : Method} {c : Code} {H : Heap} {locs : List Loc} {cells slots : Nat} {Q : State → Prop}
variable {cc : ByteArray} {pc : Nat} {ls : Array Slot} {rest : List Value} {D : va_G} {K : Nat → ClassId} {cl : List vw_C} {A : Nat → Prop} {a h0 : Nat} {tys : List (ClassId × FieldType)} {ws : va_W} {H0 : Heap}
theorem cn_newq (hexec : p.tables.exec = Jvm.exec) (hb : c.code = cc) {own C : String} {index : Nat} (hown : s.vm.findClass own = some m.cls) (hclink : (Cond.classLink own index C).before args s = true) (hover : va_AO C s) (hK : va_K D cl tys s) (hP : va_P D cl ws H) (hD : va_D A ws) (hS : va_S A H0 H locs) (hA : ∀ q, H0.size ≤ q → A q) (t0 : Nat) {cA0 : ClassId} (ht : tys[t0]? = some (cA0, .object C))
    {n : Int32} {N' : Nat} (hn : ¬ n < 0) (hN : n.toNatClampNeg = N') (hbytes : N' * 4 ≤ 536870912) (hcells : cells + 1 ≤ R.cells) (hslots : slots + N' ≤ R.slots) (hdg : decode cc pc = .ok (.anewarray index, 3))
    (kk : ∀ (q : Nat) (H1 : Heap), va_P D cl (ws ++ [(q, .inl (cA0, N', .inr (.inr (.inr (.inr (fun _ => none))))))]) H1 → va_D A (ws ++ [(q, .inl (cA0, N', .inr (.inr (.inr (.inr (fun _ => none))))))]) → va_S A H0 H1 locs →
      W p l e R s m args below meth c H1 locs (cells + 1) (slots + N') Q (F0 m (pc + 3) ls (.ref q :: rest))) : W p l e R s m args below meth c H locs cells slots Q (F0 m pc ls (.int n :: rest)) := by
  refine va_newq hexec hb hown hclink hover hK hP hD hS hA hn hN hbytes hcells hslots hdg (fun q cA H1 hK1 hP1 hD1 hS1 => ?_)
  have e : cA = cA0 := by
    obtain ⟨_, _, -, -, -, h1⟩ := (hK1.2 tys.length (cA, .object C) (by rw [List.getElem?_append_right (Nat.le_refl _), Nat.sub_self]; rfl)).2
    obtain ⟨_, _, -, -, -, h2⟩ := (hK.2 t0 _ ht).2
    exact Option.some.inj (h1.symm.trans h2)
  subst e
  exact kk q H1 hP1 hD1 hS1
theorem c_nest {y : MethodName} {bytes : ByteArray} {e0 : va_E} {cw : List Nat → va_W} {mc ms nL index b : Nat} {own host : String} (hexec : p.tables.exec = Jvm.exec) (hb : c.code = cc) (hml : c.maxLocals = nL) (hown : s.vm.findClass own = some m.cls) (hts : ∀ w ∈ gWs, w.before args s = true)
    (hM : Met l y (Cond.code y bytes 1 none :: gWs) { frames := 1, cells := mc, slots := ms, locals := 12 } (va_Pc [.ref b] (cPre D K [(b, e0)] H.size)) (va_Qv (fun _ : List Nat => True) (fun u t => va_P D gCl (cw u) t.heap ∧ va_D (va_A [(b, e0)] H.size) (cw u)) (va_A [(b, e0)] H.size)) mc ms (va_A [(b, e0)] H.size))
    (hcode : Cond.code y bytes 1 none ∈ gWs) (hnest : va_Nw (.methodLinkNest own index y host) s) (hini : (Cond.initialized y.cls).before args s = true) (hinst : (Cond.instanceMethod y).before args s = true) (hyn : y.name = "<init>") (hyd : y.cls ≠ "java/lang/invoke/MethodHandle" ∧ y.cls ≠ "java/lang/invoke/VarHandle" ∧ (parseMethodDescriptor y.desc).map (fun d => d.parameters.length) = some 0)
    (hK : va_K D gCl (cT K) s) (hP : va_P D gCl (ws ++ [(b, e0)]) H) (hD : va_D A (ws ++ [(b, e0)])) (hS : va_S A H0 H locs) (hA : ∀ q, H0.size ≤ q → A q) (hsz : ls.size = nL) (hrm : (rest.map fun v => v.category).sum ≤ 8) (hfr : 2 ≤ R.frames) (hlo : 32 ≤ R.locals) (hcl : cells + mc ≤ R.cells) (hsl : slots + ms ≤ R.slots) (hdg : decode cc pc = .ok (.invokespecial index, 3))
    (kk : ∀ (u : List Nat) (H1 : Heap) (locs1 : List Loc), va_P D gCl (ws ++ cw u) H1 → va_D A (ws ++ cw u) → va_S A H0 H1 locs1 → W p l e R s m args below meth c H1 locs1 (cells + mc) (slots + ms) Q (F0 m (pc + 3) ls rest)) : W p l e R s m args below meth c H locs cells slots Q (F0 m pc ls (.ref b :: rest)) := by
  have hF := va_free (wc := [(b, e0)]) hD hS hA [ws.length] cj_last
  have hPc : va_P D gCl [(b, e0)] H := fun k q hk => by
    have h1 := (List.getElem?_eq_some_iff.mp hk).1
    rw [List.length_singleton] at h1
    have hz : k = 0 := by omega
    subst hz
    exact hP ws.length q (by rw [List.getElem?_append_right (Nat.le_refl _), Nat.sub_self]; exact hk)
  refine va_callv (va_runIN (As := []) (rest := rest) ⟨hexec, hb, hml, hown, hts⟩ hM ⟨va_cnB 0 hts (gws_good (my := (y, bytes, 1, none)) hcode) rfl rfl rfl hnest hini hyd ⟨hfr, hlo⟩, hyn, hinst⟩ ⟨fun a U g mk q => ?_, fun U hU hW => ⟨rfl, by rw [hU], by rw [hU]; exact hPc, va_K.moved hW.alike hK⟩⟩ rfl rfl hsz rfl (lv_room hrm) hdg ⟨hcl, hsl⟩) hS (fun q _ h => hF q h) hF (fun u t H1 locs1 ht hvm hw hB hz1 hk1 hS1 => ?_)
  · obtain ⟨q0, q1, qP, qK⟩ := q
    exact ⟨q0, q1, qP, va_K.moved (u := U) (U := U.calling g mk a) (Vm.Alike.refl U.vm) qK⟩
  · obtain ⟨hP1, hD1⟩ := hB
    rw [ht] at hP1
    obtain ⟨hP2, hD2⟩ := cj_join hP hD hk1 hF hP1 hD1
    exact kk u H1 locs1 hP2 hD2 hS1
def cArr (l : List (Nat × List Nat)) : (Nat → Int32) ⊕ (Nat → Int64) ⊕ (Nat → UInt32) ⊕ (Nat → UInt64) ⊕ (Nat → Option Nat) := .inr (.inr (.inr (.inr (fun j => (l[j]?).map Prod.fst))))
theorem cArr_0 : cArr [] = .inr (.inr (.inr (.inr (fun _ => none)))) := rfl
theorem cArr_up {l : List (Nat × List Nat)} {b : Nat} {u : List Nat} : va_up (fun j => (l[j]?).map Prod.fst) l.length (some b) = fun j => ((l ++ [(b, u)])[j]?).map Prod.fst := by
  funext j
  by_cases h : j = l.length
  · subst h
    rw [va_up_self, List.getElem?_append_right (Nat.le_refl _), Nat.sub_self]
    rfl
  · rw [va_up_ne _ _ h]
    by_cases h2 : j < l.length
    · rw [List.getElem?_append_left h2]
    · rw [List.getElem?_eq_none (by omega), List.getElem?_eq_none (by rw [List.length_append, List.length_singleton]; omega)]
theorem cw_step {g X0 : va_W} {l : List (Nat × List Nat)} {q : Nat × List Nat} {f : Nat × List Nat → va_W} : (g ++ (X0 ++ l.flatMap f)) ++ f q = g ++ (X0 ++ (l ++ [q]).flatMap f) := by
  rw [List.flatMap_append, List.flatMap_cons, List.flatMap_nil, List.append_nil, List.append_assoc, List.append_assoc]
set_option maxHeartbeats 4000000 in
set_option maxRecDepth 100000 in
theorem c9_loop6 (hx : p.tables.exec = Jvm.exec) (hb : c.code = cX9_init) (hml : c.maxLocals = 2) (hown : s.vm.findClass RX9 = some m.cls) (hts : ∀ w ∈ gWs, w.before args s = true) (hK : va_K D gCl (cT K) s) (hN : cNest s) (hA : ∀ q, s.heap.size ≤ q → A q) (hRf : 2 ≤ R.frames) (hRl : 32 ≤ R.locals) (hRc : 71 ≤ R.cells) (hRs : 2664 ≤ R.slots) {fs : List Value} (hfs : fs[0]? = some (.ref a)) {x2 x3 : Nat × va_E} {X0 : va_W} (kk : ∀ (l1 : List (Nat × List Nat)) (H : Heap) (locs : List Loc) (ls : Array Slot), l1.length = 8 → va_P D gCl ([(h0, .inr (9, fs)), (a, .inl (K 3, 8, cArr l1)), x2, x3] ++ (X0 ++ l1.flatMap (fun p => cwX6 K p.1 p.2))) H → va_D A ([(h0, .inr (9, fs)), (a, .inl (K 3, 8, cArr l1)), x2, x3] ++ (X0 ++ l1.flatMap (fun p => cwX6 K p.1 p.2))) → va_S A s.heap H locs → lv_has ls 2 [(0, .ref h0)] → W p l e R s m args below meth c H locs 35 2278 Q (F0 m 134 ls [])) : ∀ (n : Nat) (l1 : List (Nat × List Nat)) (H : Heap) (locs : List Loc) (ls : Array Slot), l1.length + n = 8 → va_P D gCl ([(h0, .inr (9, fs)), (a, .inl (K 3, 8, cArr l1)), x2, x3] ++ (X0 ++ l1.flatMap (fun p => cwX6 K p.1 p.2))) H → va_D A ([(h0, .inr (9, fs)), (a, .inl (K 3, 8, cArr l1)), x2, x3] ++ (X0 ++ l1.flatMap (fun p => cwX6 K p.1 p.2))) → va_S A s.heap H locs → lv_has ls 2 [(1, .int (nI l1.length)), (0, .ref h0)] → W p l e R s m args below meth c H locs (19 + 2 * l1.length) (1742 + 67 * l1.length) Q (F0 m 109 ls []) := by
  intro n
  induction n with
  | zero =>
    intro l1 H locs ls hn hP hD hS hl
    refine lv_iload_n hx hb dX9_init_109 rfl (lv_at hl 0 rfl) ?_
    refine lv_bipush (v := 8) hx hb dX9_init_110 (by decide) ?_
    refine lv_icmp_ge (tgt := 134) hx hb dX9_init_112 (by decide) (fun c1 => ?_) (fun c1 => absurd (by rw [show l1.length = 8 by omega]; decide) c1)
    have hz : l1.length = 8 := by omega
    rw [hz]
    exact kk l1 H locs ls hz hP hD hS (lv_sub hl [1] rfl)
  | succ n ih =>
    intro l1 H locs ls hn hP hD hS hl
    refine lv_iload_n hx hb dX9_init_109 rfl (lv_at hl 0 rfl) ?_
    refine lv_bipush (v := 8) hx hb dX9_init_110 (by decide) ?_
    refine lv_icmp_ge (tgt := 134) hx hb dX9_init_112 (by decide) (fun c1 => absurd c1 (nI_ge (b := 8) (by omega) (by decide))) (fun c1 => ?_)
    refine lv_aload_n hx hb dX9_init_115 rfl (lv_at hl 1 rfl) ?_
    refine va_get (D := D) (ci := 9) (C := RX9) (T := TX9) (N := 11) hx hb hts gclk9.2.2.1 hown hK hP 0 rfl rfl 0 (by decide) (hts _ (gin_ok (p := 238) (by decide +kernel))) (fun _ h9 => h9) hfs dX9_init_116 ?_
    refine lv_iload_n hx hb dX9_init_119 rfl (lv_at hl 0 rfl) ?_
    refine va_new (ci := 6) (fs := [.null, .int 0, .int 0]) (C := RX6) (T := TX6) (N := 3) hx hb hts gclk6.2.2.1 tyX6 gclk6.2.2.2.1 hown (hts _ (gin_ok (p := 61) (by decide +kernel))) (hts _ (gin_ok (p := 183) (by decide +kernel))) (hts _ (gin_ok (p := 41) (by decide +kernel))) hK hP hD hS hA rfl (fun j hj => by rcases (show j = 0 ∨ j = 1 ∨ j = 2 by omega) with rfl | rfl | rfl <;> rfl) (by omega) (by omega) dX9_init_120 (fun b H hP hD hS => ?_)
    refine lv_dup hx hb dX9_init_123 rfl ?_
    refine c_nest (e0 := .inr (6, [.null, .int 0, .int 0])) (cw := fun u => cwX6 K b u) hx hb hml hown hts (c_X6_init l D K b H.size) (gin_ok (p := 186) (by decide +kernel)) (hN.1 (76, yX6_init) (List.mem_of_getElem? (i := 6) rfl)) (hts _ (gin_ok (p := 41) (by decide +kernel))) (hts _ (gin_ok (p := 185) (by decide +kernel))) rfl (by decide +kernel) hK hP hD hS hA hl.1 (Nat.le_of_ble_eq_true rfl) hRf hRl (by omega) (by omega) dX9_init_124 (fun u H locs hP hD hS => ?_)
    refine va_astq hx hb hK hP hD hS 1 3 ([(h0, .inr (9, fs)), (a, .inl (K 3, 8, cArr l1)), x2, x3] ++ (X0 ++ l1.flatMap (fun p => cwX6 K p.1 p.2))).length 6 (r := (RX6, TX6, 3)) (f := fun j => (l1[j]?).map Prod.fst) rfl rfl (by rw [List.getElem?_append_right (Nat.le_refl _), Nat.sub_self]; rfl) rfl (vp_in_nI (by omega) (by decide)) dX9_init_127 (fun H locs hP hD hS => ?_)
    have hP : va_P D gCl (([(h0, .inr (9, fs)), (a, .inl (K 3, 8, .inr (.inr (.inr (.inr (va_up (fun j => (l1[j]?).map Prod.fst) (nI l1.length).toNatClampNeg (some b))))))), x2, x3] ++ (X0 ++ l1.flatMap (fun p => cwX6 K p.1 p.2))) ++ cwX6 K b u) H := hP
    have hD : va_D A (([(h0, .inr (9, fs)), (a, .inl (K 3, 8, .inr (.inr (.inr (.inr (va_up (fun j => (l1[j]?).map Prod.fst) (nI l1.length).toNatClampNeg (some b))))))), x2, x3] ++ (X0 ++ l1.flatMap (fun p => cwX6 K p.1 p.2))) ++ cwX6 K b u) := hD
    rw [nI_clamp (show l1.length < 2 ^ 31 by omega), cArr_up (u := u)] at hP hD
    have e1 := cw_step (g := [(h0, .inr (9, fs)), (a, .inl (K 3, 8, cArr (l1 ++ [(b, u)]))), x2, x3]) (X0 := X0) (l := l1) (q := (b, u)) (f := (fun p => cwX6 K p.1 p.2))
    have hP : va_P D gCl ([(h0, .inr (9, fs)), (a, .inl (K 3, 8, cArr (l1 ++ [(b, u)]))), x2, x3] ++ (X0 ++ (l1 ++ [(b, u)]).flatMap (fun p => cwX6 K p.1 p.2))) H := by rw [← e1]; exact hP
    have hD : va_D A ([(h0, .inr (9, fs)), (a, .inl (K 3, 8, cArr (l1 ++ [(b, u)]))), x2, x3] ++ (X0 ++ (l1 ++ [(b, u)]).flatMap (fun p => cwX6 K p.1 p.2))) := by rw [← e1]; exact hD
    have e2 : (l1 ++ [(b, u)]).length = l1.length + 1 := by rw [List.length_append, List.length_singleton]
    refine lv_iinc (v := nI (l1.length + 1)) (lv' := [(1, .int (nI (l1.length + 1))), (0, .ref h0)]) hx hb dX9_init_128 hl (k := 0) rfl (nI_1 l1.length) (by decide) rfl (fun ls hl => ?_)
    refine lv_goto (tgt := 109) hx hb dX9_init_131 (by decide) ?_
    refine W.widen (k := 19 + 2 * (l1 ++ [(b, u)]).length) (n := 1742 + 67 * (l1 ++ [(b, u)]).length) (by rw [e2]; omega) (by rw [e2]; omega) ?_
    exact ih (l1 ++ [(b, u)]) H locs ls (by rw [e2]; omega) hP hD hS (by rw [e2]; exact hl)
set_option maxHeartbeats 4000000 in
set_option maxRecDepth 100000 in
theorem c9_loop8 (hx : p.tables.exec = Jvm.exec) (hb : c.code = cX9_init) (hml : c.maxLocals = 2) (hown : s.vm.findClass RX9 = some m.cls) (hts : ∀ w ∈ gWs, w.before args s = true) (hK : va_K D gCl (cT K) s) (hN : cNest s) (hA : ∀ q, s.heap.size ≤ q → A q) (hRf : 2 ≤ R.frames) (hRl : 32 ≤ R.locals) (hRc : 71 ≤ R.cells) (hRs : 2664 ≤ R.slots) {fs : List Value} (hfs : fs[1]? = some (.ref a)) {x1 x3 : Nat × va_E} {X0 : va_W} (kk : ∀ (l1 : List (Nat × List Nat)) (H : Heap) (locs : List Loc) (ls : Array Slot), l1.length = 8 → va_P D gCl ([(h0, .inr (9, fs)), x1, (a, .inl (K 4, 8, cArr l1)), x3] ++ (X0 ++ l1.flatMap (fun p => cwX8 K p.1 p.2))) H → va_D A ([(h0, .inr (9, fs)), x1, (a, .inl (K 4, 8, cArr l1)), x3] ++ (X0 ++ l1.flatMap (fun p => cwX8 K p.1 p.2))) → va_S A s.heap H locs → lv_has ls 2 [(0, .ref h0)] → W p l e R s m args below meth c H locs 59 2550 Q (F0 m 161 ls [])) : ∀ (n : Nat) (l1 : List (Nat × List Nat)) (H : Heap) (locs : List Loc) (ls : Array Slot), l1.length + n = 8 → va_P D gCl ([(h0, .inr (9, fs)), x1, (a, .inl (K 4, 8, cArr l1)), x3] ++ (X0 ++ l1.flatMap (fun p => cwX8 K p.1 p.2))) H → va_D A ([(h0, .inr (9, fs)), x1, (a, .inl (K 4, 8, cArr l1)), x3] ++ (X0 ++ l1.flatMap (fun p => cwX8 K p.1 p.2))) → va_S A s.heap H locs → lv_has ls 2 [(1, .int (nI l1.length)), (0, .ref h0)] → W p l e R s m args below meth c H locs (35 + 3 * l1.length) (2278 + 34 * l1.length) Q (F0 m 136 ls []) := by
  intro n
  induction n with
  | zero =>
    intro l1 H locs ls hn hP hD hS hl
    refine lv_iload_n hx hb dX9_init_136 rfl (lv_at hl 0 rfl) ?_
    refine lv_bipush (v := 8) hx hb dX9_init_137 (by decide) ?_
    refine lv_icmp_ge (tgt := 161) hx hb dX9_init_139 (by decide) (fun c1 => ?_) (fun c1 => absurd (by rw [show l1.length = 8 by omega]; decide) c1)
    have hz : l1.length = 8 := by omega
    rw [hz]
    exact kk l1 H locs ls hz hP hD hS (lv_sub hl [1] rfl)
  | succ n ih =>
    intro l1 H locs ls hn hP hD hS hl
    refine lv_iload_n hx hb dX9_init_136 rfl (lv_at hl 0 rfl) ?_
    refine lv_bipush (v := 8) hx hb dX9_init_137 (by decide) ?_
    refine lv_icmp_ge (tgt := 161) hx hb dX9_init_139 (by decide) (fun c1 => absurd c1 (nI_ge (b := 8) (by omega) (by decide))) (fun c1 => ?_)
    refine lv_aload_n hx hb dX9_init_142 rfl (lv_at hl 1 rfl) ?_
    refine va_get (D := D) (ci := 9) (C := RX9) (T := TX9) (N := 11) hx hb hts gclk9.2.2.1 hown hK hP 0 rfl rfl 1 (by decide) (hts _ (gin_ok (p := 239) (by decide +kernel))) (fun _ h9 => h9) hfs dX9_init_143 ?_
    refine lv_iload_n hx hb dX9_init_146 rfl (lv_at hl 0 rfl) ?_
    refine va_new (ci := 8) (fs := [.null, .null]) (C := RX8) (T := TX8) (N := 2) hx hb hts gclk8.2.2.1 tyX8 gclk8.2.2.2.1 hown (hts _ (gin_ok (p := 63) (by decide +kernel))) (hts _ (gin_ok (p := 201) (by decide +kernel))) (hts _ (gin_ok (p := 42) (by decide +kernel))) hK hP hD hS hA rfl (fun j hj => by rcases (show j = 0 ∨ j = 1 by omega) with rfl | rfl <;> rfl) (by omega) (by omega) dX9_init_147 (fun b H hP hD hS => ?_)
    refine lv_dup hx hb dX9_init_150 rfl ?_
    refine c_nest (e0 := .inr (8, [.null, .null])) (cw := fun u => cwX8 K b u) hx hb hml hown hts (c_X8_init l D K b H.size) (gin_ok (p := 204) (by decide +kernel)) (hN.1 (77, yX8_init) (List.mem_of_getElem? (i := 7) rfl)) (hts _ (gin_ok (p := 42) (by decide +kernel))) (hts _ (gin_ok (p := 203) (by decide +kernel))) rfl (by decide +kernel) hK hP hD hS hA hl.1 (Nat.le_of_ble_eq_true rfl) hRf hRl (by omega) (by omega) dX9_init_151 (fun u H locs hP hD hS => ?_)
    refine va_astq hx hb hK hP hD hS 2 4 ([(h0, .inr (9, fs)), x1, (a, .inl (K 4, 8, cArr l1)), x3] ++ (X0 ++ l1.flatMap (fun p => cwX8 K p.1 p.2))).length 8 (r := (RX8, TX8, 2)) (f := fun j => (l1[j]?).map Prod.fst) rfl rfl (by rw [List.getElem?_append_right (Nat.le_refl _), Nat.sub_self]; rfl) rfl (vp_in_nI (by omega) (by decide)) dX9_init_154 (fun H locs hP hD hS => ?_)
    have hP : va_P D gCl (([(h0, .inr (9, fs)), x1, (a, .inl (K 4, 8, .inr (.inr (.inr (.inr (va_up (fun j => (l1[j]?).map Prod.fst) (nI l1.length).toNatClampNeg (some b))))))), x3] ++ (X0 ++ l1.flatMap (fun p => cwX8 K p.1 p.2))) ++ cwX8 K b u) H := hP
    have hD : va_D A (([(h0, .inr (9, fs)), x1, (a, .inl (K 4, 8, .inr (.inr (.inr (.inr (va_up (fun j => (l1[j]?).map Prod.fst) (nI l1.length).toNatClampNeg (some b))))))), x3] ++ (X0 ++ l1.flatMap (fun p => cwX8 K p.1 p.2))) ++ cwX8 K b u) := hD
    rw [nI_clamp (show l1.length < 2 ^ 31 by omega), cArr_up (u := u)] at hP hD
    have e1 := cw_step (g := [(h0, .inr (9, fs)), x1, (a, .inl (K 4, 8, cArr (l1 ++ [(b, u)]))), x3]) (X0 := X0) (l := l1) (q := (b, u)) (f := (fun p => cwX8 K p.1 p.2))
    have hP : va_P D gCl ([(h0, .inr (9, fs)), x1, (a, .inl (K 4, 8, cArr (l1 ++ [(b, u)]))), x3] ++ (X0 ++ (l1 ++ [(b, u)]).flatMap (fun p => cwX8 K p.1 p.2))) H := by rw [← e1]; exact hP
    have hD : va_D A ([(h0, .inr (9, fs)), x1, (a, .inl (K 4, 8, cArr (l1 ++ [(b, u)]))), x3] ++ (X0 ++ (l1 ++ [(b, u)]).flatMap (fun p => cwX8 K p.1 p.2))) := by rw [← e1]; exact hD
    have e2 : (l1 ++ [(b, u)]).length = l1.length + 1 := by rw [List.length_append, List.length_singleton]
    refine lv_iinc (v := nI (l1.length + 1)) (lv' := [(1, .int (nI (l1.length + 1))), (0, .ref h0)]) hx hb dX9_init_155 hl (k := 0) rfl (nI_1 l1.length) (by decide) rfl (fun ls hl => ?_)
    refine lv_goto (tgt := 136) hx hb dX9_init_158 (by decide) ?_
    refine W.widen (k := 35 + 3 * (l1 ++ [(b, u)]).length) (n := 2278 + 34 * (l1 ++ [(b, u)]).length) (by rw [e2]; omega) (by rw [e2]; omega) ?_
    exact ih (l1 ++ [(b, u)]) H locs ls (by rw [e2]; omega) hP hD hS (by rw [e2]; exact hl)
set_option maxHeartbeats 4000000 in
set_option maxRecDepth 100000 in
theorem c9_loop3 (hx : p.tables.exec = Jvm.exec) (hb : c.code = cX9_init) (hml : c.maxLocals = 2) (hown : s.vm.findClass RX9 = some m.cls) (hts : ∀ w ∈ gWs, w.before args s = true) (hK : va_K D gCl (cT K) s) (hN : cNest s) (hA : ∀ q, s.heap.size ≤ q → A q) (hRf : 2 ≤ R.frames) (hRl : 32 ≤ R.locals) (hRc : 71 ≤ R.cells) (hRs : 2664 ≤ R.slots) {fs : List Value} (hfs : fs[2]? = some (.ref a)) {x1 x2 : Nat × va_E} {X0 : va_W} (kk : ∀ (l1 : List (Nat × List Nat)) (H : Heap) (locs : List Loc) (ls : Array Slot), l1.length = 6 → va_P D gCl ([(h0, .inr (9, fs)), x1, x2, (a, .inl (K 5, 6, cArr l1))] ++ (X0 ++ l1.flatMap (fun p => cwX3 K p.1 p.2))) H → va_D A ([(h0, .inr (9, fs)), x1, x2, (a, .inl (K 5, 6, cArr l1))] ++ (X0 ++ l1.flatMap (fun p => cwX3 K p.1 p.2))) → va_S A s.heap H locs → lv_has ls 2 [(0, .ref h0)] → W p l e R s m args below meth c H locs 71 2664 Q (F0 m 188 ls [])) : ∀ (n : Nat) (l1 : List (Nat × List Nat)) (H : Heap) (locs : List Loc) (ls : Array Slot), l1.length + n = 6 → va_P D gCl ([(h0, .inr (9, fs)), x1, x2, (a, .inl (K 5, 6, cArr l1))] ++ (X0 ++ l1.flatMap (fun p => cwX3 K p.1 p.2))) H → va_D A ([(h0, .inr (9, fs)), x1, x2, (a, .inl (K 5, 6, cArr l1))] ++ (X0 ++ l1.flatMap (fun p => cwX3 K p.1 p.2))) → va_S A s.heap H locs → lv_has ls 2 [(1, .int (nI l1.length)), (0, .ref h0)] → W p l e R s m args below meth c H locs (59 + 2 * l1.length) (2550 + 19 * l1.length) Q (F0 m 163 ls []) := by
  intro n
  induction n with
  | zero =>
    intro l1 H locs ls hn hP hD hS hl
    refine lv_iload_n hx hb dX9_init_163 rfl (lv_at hl 0 rfl) ?_
    refine lv_bipush (v := 6) hx hb dX9_init_164 (by decide) ?_
    refine lv_icmp_ge (tgt := 188) hx hb dX9_init_166 (by decide) (fun c1 => ?_) (fun c1 => absurd (by rw [show l1.length = 6 by omega]; decide) c1)
    have hz : l1.length = 6 := by omega
    rw [hz]
    exact kk l1 H locs ls hz hP hD hS (lv_sub hl [1] rfl)
  | succ n ih =>
    intro l1 H locs ls hn hP hD hS hl
    refine lv_iload_n hx hb dX9_init_163 rfl (lv_at hl 0 rfl) ?_
    refine lv_bipush (v := 6) hx hb dX9_init_164 (by decide) ?_
    refine lv_icmp_ge (tgt := 188) hx hb dX9_init_166 (by decide) (fun c1 => absurd c1 (nI_ge (b := 6) (by omega) (by decide))) (fun c1 => ?_)
    refine lv_aload_n hx hb dX9_init_169 rfl (lv_at hl 1 rfl) ?_
    refine va_get (D := D) (ci := 9) (C := RX9) (T := TX9) (N := 11) hx hb hts gclk9.2.2.1 hown hK hP 0 rfl rfl 2 (by decide) (hts _ (gin_ok (p := 240) (by decide +kernel))) (fun _ h9 => h9) hfs dX9_init_170 ?_
    refine lv_iload_n hx hb dX9_init_173 rfl (lv_at hl 0 rfl) ?_
    refine va_new (ci := 3) (fs := [.null, .int 0, .int 0]) (C := RX3) (T := TX3) (N := 3) hx hb hts gclk3.2.2.1 tyX3 gclk3.2.2.2.1 hown (hts _ (gin_ok (p := 65) (by decide +kernel))) (hts _ (gin_ok (p := 219) (by decide +kernel))) (hts _ (gin_ok (p := 43) (by decide +kernel))) hK hP hD hS hA rfl (fun j hj => by rcases (show j = 0 ∨ j = 1 ∨ j = 2 by omega) with rfl | rfl | rfl <;> rfl) (by omega) (by omega) dX9_init_174 (fun b H hP hD hS => ?_)
    refine lv_dup hx hb dX9_init_177 rfl ?_
    refine c_nest (e0 := .inr (3, [.null, .int 0, .int 0])) (cw := fun u => cwX3 K b u) hx hb hml hown hts (c_X3_init l D K b H.size) (gin_ok (p := 222) (by decide +kernel)) (hN.1 (78, yX3_init) (List.mem_of_getElem? (i := 8) rfl)) (hts _ (gin_ok (p := 43) (by decide +kernel))) (hts _ (gin_ok (p := 221) (by decide +kernel))) rfl (by decide +kernel) hK hP hD hS hA hl.1 (Nat.le_of_ble_eq_true rfl) hRf hRl (by omega) (by omega) dX9_init_178 (fun u H locs hP hD hS => ?_)
    refine va_astq hx hb hK hP hD hS 3 5 ([(h0, .inr (9, fs)), x1, x2, (a, .inl (K 5, 6, cArr l1))] ++ (X0 ++ l1.flatMap (fun p => cwX3 K p.1 p.2))).length 3 (r := (RX3, TX3, 3)) (f := fun j => (l1[j]?).map Prod.fst) rfl rfl (by rw [List.getElem?_append_right (Nat.le_refl _), Nat.sub_self]; rfl) rfl (vp_in_nI (by omega) (by decide)) dX9_init_181 (fun H locs hP hD hS => ?_)
    have hP : va_P D gCl (([(h0, .inr (9, fs)), x1, x2, (a, .inl (K 5, 6, .inr (.inr (.inr (.inr (va_up (fun j => (l1[j]?).map Prod.fst) (nI l1.length).toNatClampNeg (some b)))))))] ++ (X0 ++ l1.flatMap (fun p => cwX3 K p.1 p.2))) ++ cwX3 K b u) H := hP
    have hD : va_D A (([(h0, .inr (9, fs)), x1, x2, (a, .inl (K 5, 6, .inr (.inr (.inr (.inr (va_up (fun j => (l1[j]?).map Prod.fst) (nI l1.length).toNatClampNeg (some b)))))))] ++ (X0 ++ l1.flatMap (fun p => cwX3 K p.1 p.2))) ++ cwX3 K b u) := hD
    rw [nI_clamp (show l1.length < 2 ^ 31 by omega), cArr_up (u := u)] at hP hD
    have e1 := cw_step (g := [(h0, .inr (9, fs)), x1, x2, (a, .inl (K 5, 6, cArr (l1 ++ [(b, u)])))]) (X0 := X0) (l := l1) (q := (b, u)) (f := (fun p => cwX3 K p.1 p.2))
    have hP : va_P D gCl ([(h0, .inr (9, fs)), x1, x2, (a, .inl (K 5, 6, cArr (l1 ++ [(b, u)])))] ++ (X0 ++ (l1 ++ [(b, u)]).flatMap (fun p => cwX3 K p.1 p.2))) H := by rw [← e1]; exact hP
    have hD : va_D A ([(h0, .inr (9, fs)), x1, x2, (a, .inl (K 5, 6, cArr (l1 ++ [(b, u)])))] ++ (X0 ++ (l1 ++ [(b, u)]).flatMap (fun p => cwX3 K p.1 p.2))) := by rw [← e1]; exact hD
    have e2 : (l1 ++ [(b, u)]).length = l1.length + 1 := by rw [List.length_append, List.length_singleton]
    refine lv_iinc (v := nI (l1.length + 1)) (lv' := [(1, .int (nI (l1.length + 1))), (0, .ref h0)]) hx hb dX9_init_182 hl (k := 0) rfl (nI_1 l1.length) (by decide) rfl (fun ls hl => ?_)
    refine lv_goto (tgt := 163) hx hb dX9_init_185 (by decide) ?_
    refine W.widen (k := 59 + 2 * (l1 ++ [(b, u)]).length) (n := 2550 + 19 * (l1 ++ [(b, u)]).length) (by rw [e2]; omega) (by rw [e2]; omega) ?_
    exact ih (l1 ++ [(b, u)]) H locs ls (by rw [e2]; omega) hP hD hS (by rw [e2]; exact hl)
end CTOR
abbrev cU : Type := (Nat → Nat × List Nat) × (Nat → Nat) × (Nat → List (Nat × List Nat))
def cw9 (K : Nat → ClassId) (h0 : Nat) (u : cU) : va_W := [(h0, .inr (9, [.ref (u.2.1 0), .ref (u.2.1 1), .ref (u.2.1 2), .ref (u.1 1).1, .ref (u.1 7).1, .ref (u.1 5).1, .ref (u.1 4).1, .ref (u.1 2).1, .ref (u.1 0).1, .int 0, .int 0])), (u.2.1 0, .inl (K 3, 8, cArr (u.2.2 6))), (u.2.1 1, .inl (K 4, 8, cArr (u.2.2 8))), (u.2.1 2, .inl (K 5, 6, cArr (u.2.2 3)))] ++ ((((((((([] ++ cwX1 K (u.1 1).1 (u.1 1).2) ++ cwX7 K (u.1 7).1 (u.1 7).2) ++ cwX5 K (u.1 5).1 (u.1 5).2) ++ cwX4 K (u.1 4).1 (u.1 4).2) ++ cwX2 K (u.1 2).1 (u.1 2).2) ++ cwX0 K (u.1 0).1 (u.1 0).2) ++ (u.2.2 6).flatMap (fun p => cwX6 K p.1 p.2)) ++ (u.2.2 8).flatMap (fun p => cwX8 K p.1 p.2)) ++ (u.2.2 3).flatMap (fun p => cwX3 K p.1 p.2))
abbrev ciX9 (h0 : Nat) : va_W := [(h0, .inr (9, [.null, .null, .null, .null, .null, .null, .null, .null, .null, .int 0, .int 0]))]
def cPre9 (D : va_G) (K : Nat → ClassId) (h0 sz : Nat) (U : State) : Prop := cPre D K (ciX9 h0) sz U ∧ cNest U
set_option maxHeartbeats 4000000 in
set_option maxRecDepth 100000 in
theorem c_X9_init (l : Launch) (D : va_G) (K : Nat → ClassId) (h0 sz : Nat) : Met l yX9_init (gws myX9_init) { frames := 2, cells := 71, slots := 2664, locals := 32 } (va_Pc [.ref h0] (cPre9 D K h0 sz)) (va_Qv (fun u : cU => (u.2.2 6).length = 8 ∧ (u.2.2 8).length = 8 ∧ (u.2.2 3).length = 6) (fun u t => va_P D gCl (cw9 K h0 u) t.heap ∧ va_D (va_A (ciX9 h0) sz) (cw9 K h0 u)) (va_A (ciX9 h0) sz)) 71 2664 (va_A (ciX9 h0) sz) := by
  refine gMet_ofW (cc := cX9_init) (maxL := 2) (ret := none) (by decide) rfl ?_
  intro p e s m args below meth c s₁ B hml hv
  obtain ⟨rfl, ⟨hsz, hP, hK⟩, hN⟩ := hv
  have hx := B.exec
  have hb := B.bytes
  have hr := B.returns
  have hts0 := atoms_spec (ws := gws myX9_init) B.pre
  have hts : ∀ w ∈ gWs, w.before #[Value.ref h0] s = true := fun w hw => hts0 w (List.mem_cons_of_mem _ hw)
  have hown : s.vm.findClass RX9 = some m.cls := findClass_of_methodNamed B.named
  have hlk := B.notSynchronized
  have hin : meth.name = "<init>" := (name_of_methodNamed B.named B.method).1
  subst hsz
  have hD : va_D (va_A (ciX9 h0) s.heap.size) (ciX9 h0) := va_D.self (A := fun _ => True) (va_D1 trivial)
  generalize hAe : va_A (ciX9 h0) s.heap.size = A at hD ⊢
  have hA : ∀ q : Nat, s.heap.size ≤ q → A q := fun q h => by rw [← hAe]; exact Or.inr h
  have hS : va_S A s.heap s.heap [] := va_S.rf
  have hl := lv_entry ([.ref h0]) (n := 2) (Nat.le_of_ble_eq_true rfl)
  show W p l e { frames := 2, cells := 71, slots := 2664, locals := 32 } s m _ below meth c s.heap [] 0 0 _ (entryFrame m ([Value.ref h0] : List Value).toArray 2)
  rw [lg_entry_eq]
  generalize (lg_sl ([.ref h0]) ++ List.replicate (2 - (lg_sl ([.ref h0])).length) Slot.unset).toArray = ls at hl ⊢
  have hl : lv_has ls 2 [(0, .ref h0)] := hl
  have hRf : 2 ≤ ({ frames := 2, cells := 71, slots := 2664, locals := 32 } : Room).frames := Nat.le_refl _
  have hRl : 32 ≤ ({ frames := 2, cells := 71, slots := 2664, locals := 32 } : Room).locals := Nat.le_refl _
  refine lv_aload_n hx hb dX9_init_0 rfl (lv_at hl 0 rfl) ?_
  refine W.objInit hx hb hown (hts _ (gin_ok (p := 58) (by decide +kernel))) (hts _ (gin_ok (p := 59) (by decide +kernel))) (hts _ (gin_ok (p := 60) (by decide +kernel))) rfl (by rw [hml]; exact hl.1) rfl dX9_init_1 (Nat.le_of_ble_eq_true rfl) (Nat.le_of_ble_eq_true rfl) ?_
  refine W.eq (g2 := F0 m 4 ls []) rfl ?_
  refine lv_aload_n hx hb dX9_init_4 rfl (lv_at hl 0 rfl) ?_
  refine lv_bipush (v := 8) hx hb dX9_init_5 (by decide) ?_
  refine cn_newq (C := RX6) hx hb hown (hts _ (gin_ok (p := 61) (by decide +kernel))) hN.2.1 hK hP hD hS hA 3 (cA0 := K 3) rfl (N' := 8) (by decide) (by decide) (Nat.le_of_ble_eq_true rfl) (Nat.le_of_ble_eq_true rfl) (Nat.le_of_ble_eq_true rfl) dX9_init_7 (fun a0 H hP hD hS => ?_)
  have hP : va_P D gCl [(h0, .inr (9, [.null, .null, .null, .null, .null, .null, .null, .null, .null, .int 0, .int 0])), (a0, .inl (K 3, 8, cArr []))] H := hP
  have hD : va_D A [(h0, .inr (9, [.null, .null, .null, .null, .null, .null, .null, .null, .null, .int 0, .int 0])), (a0, .inl (K 3, 8, cArr []))] := hD
  refine va_putF (D := D) (ci := 9) (ty := tyX9 0) (C := RX9) (T := TX9) (N := 11) hx hb hts gclk9.2.2.1 tyX9 gclk9.2.2.2.1 gclk9.2.2.2.2.1 hown hK hP hD hS 0 rfl rfl 0 (by decide) (hts _ (gin_ok (p := 238) (by decide +kernel))) (fun _ h9 => h9) rfl hin rfl (v := .ref a0) (gclk9.2.2.2.1 0 (by decide)) rfl rfl (Nat.le_of_ble_eq_true rfl) dX9_init_10 (fun H locs hP hD hS => ?_)
  have hP : va_P D gCl [(h0, .inr (9, [.ref a0, .null, .null, .null, .null, .null, .null, .null, .null, .int 0, .int 0])), (a0, .inl (K 3, 8, cArr []))] H := hP
  have hD : va_D A [(h0, .inr (9, [.ref a0, .null, .null, .null, .null, .null, .null, .null, .null, .int 0, .int 0])), (a0, .inl (K 3, 8, cArr []))] := hD
  refine lv_aload_n hx hb dX9_init_13 rfl (lv_at hl 0 rfl) ?_
  refine lv_bipush (v := 8) hx hb dX9_init_14 (by decide) ?_
  refine cn_newq (C := RX8) hx hb hown (hts _ (gin_ok (p := 63) (by decide +kernel))) hN.2.2.1 hK hP hD hS hA 4 (cA0 := K 4) rfl (N' := 8) (by decide) (by decide) (Nat.le_of_ble_eq_true rfl) (Nat.le_of_ble_eq_true rfl) (Nat.le_of_ble_eq_true rfl) dX9_init_16 (fun a1 H hP hD hS => ?_)
  have hP : va_P D gCl [(h0, .inr (9, [.ref a0, .null, .null, .null, .null, .null, .null, .null, .null, .int 0, .int 0])), (a0, .inl (K 3, 8, cArr [])), (a1, .inl (K 4, 8, cArr []))] H := hP
  have hD : va_D A [(h0, .inr (9, [.ref a0, .null, .null, .null, .null, .null, .null, .null, .null, .int 0, .int 0])), (a0, .inl (K 3, 8, cArr [])), (a1, .inl (K 4, 8, cArr []))] := hD
  refine va_putF (D := D) (ci := 9) (ty := tyX9 1) (C := RX9) (T := TX9) (N := 11) hx hb hts gclk9.2.2.1 tyX9 gclk9.2.2.2.1 gclk9.2.2.2.2.1 hown hK hP hD hS 0 rfl rfl 1 (by decide) (hts _ (gin_ok (p := 239) (by decide +kernel))) (fun _ h9 => h9) rfl hin rfl (v := .ref a1) (gclk9.2.2.2.1 1 (by decide)) rfl rfl (Nat.le_of_ble_eq_true rfl) dX9_init_19 (fun H locs hP hD hS => ?_)
  have hP : va_P D gCl [(h0, .inr (9, [.ref a0, .ref a1, .null, .null, .null, .null, .null, .null, .null, .int 0, .int 0])), (a0, .inl (K 3, 8, cArr [])), (a1, .inl (K 4, 8, cArr []))] H := hP
  have hD : va_D A [(h0, .inr (9, [.ref a0, .ref a1, .null, .null, .null, .null, .null, .null, .null, .int 0, .int 0])), (a0, .inl (K 3, 8, cArr [])), (a1, .inl (K 4, 8, cArr []))] := hD
  refine lv_aload_n hx hb dX9_init_22 rfl (lv_at hl 0 rfl) ?_
  refine lv_bipush (v := 6) hx hb dX9_init_23 (by decide) ?_
  refine cn_newq (C := RX3) hx hb hown (hts _ (gin_ok (p := 65) (by decide +kernel))) hN.2.2.2 hK hP hD hS hA 5 (cA0 := K 5) rfl (N' := 6) (by decide) (by decide) (Nat.le_of_ble_eq_true rfl) (Nat.le_of_ble_eq_true rfl) (Nat.le_of_ble_eq_true rfl) dX9_init_25 (fun a2 H hP hD hS => ?_)
  have hP : va_P D gCl [(h0, .inr (9, [.ref a0, .ref a1, .null, .null, .null, .null, .null, .null, .null, .int 0, .int 0])), (a0, .inl (K 3, 8, cArr [])), (a1, .inl (K 4, 8, cArr [])), (a2, .inl (K 5, 6, cArr []))] H := hP
  have hD : va_D A [(h0, .inr (9, [.ref a0, .ref a1, .null, .null, .null, .null, .null, .null, .null, .int 0, .int 0])), (a0, .inl (K 3, 8, cArr [])), (a1, .inl (K 4, 8, cArr [])), (a2, .inl (K 5, 6, cArr []))] := hD
  refine va_putF (D := D) (ci := 9) (ty := tyX9 2) (C := RX9) (T := TX9) (N := 11) hx hb hts gclk9.2.2.1 tyX9 gclk9.2.2.2.1 gclk9.2.2.2.2.1 hown hK hP hD hS 0 rfl rfl 2 (by decide) (hts _ (gin_ok (p := 240) (by decide +kernel))) (fun _ h9 => h9) rfl hin rfl (v := .ref a2) (gclk9.2.2.2.1 2 (by decide)) rfl rfl (Nat.le_of_ble_eq_true rfl) dX9_init_28 (fun H locs hP hD hS => ?_)
  have hP : va_P D gCl [(h0, .inr (9, [.ref a0, .ref a1, .ref a2, .null, .null, .null, .null, .null, .null, .int 0, .int 0])), (a0, .inl (K 3, 8, cArr [])), (a1, .inl (K 4, 8, cArr [])), (a2, .inl (K 5, 6, cArr []))] H := hP
  have hD : va_D A [(h0, .inr (9, [.ref a0, .ref a1, .ref a2, .null, .null, .null, .null, .null, .null, .int 0, .int 0])), (a0, .inl (K 3, 8, cArr [])), (a1, .inl (K 4, 8, cArr [])), (a2, .inl (K 5, 6, cArr []))] := hD
  have hP : va_P D gCl ([(h0, .inr (9, [.ref a0, .ref a1, .ref a2, .null, .null, .null, .null, .null, .null, .int 0, .int 0])), (a0, .inl (K 3, 8, cArr [])), (a1, .inl (K 4, 8, cArr [])), (a2, .inl (K 5, 6, cArr []))] ++ []) H := hP
  have hD : va_D A ([(h0, .inr (9, [.ref a0, .ref a1, .ref a2, .null, .null, .null, .null, .null, .null, .int 0, .int 0])), (a0, .inl (K 3, 8, cArr [])), (a1, .inl (K 4, 8, cArr [])), (a2, .inl (K 5, 6, cArr []))] ++ []) := hD
  refine lv_aload_n hx hb dX9_init_31 rfl (lv_at hl 0 rfl) ?_
  refine va_new (ci := 1) (fs := [.null, .null]) (C := RX1) (T := TX1) (N := 2) hx hb hts gclk1.2.2.1 tyX1 gclk1.2.2.2.1 hown (hts _ (gin_ok (p := 67) (by decide +kernel))) (hts _ (gin_ok (p := 68) (by decide +kernel))) (hts _ (gin_ok (p := 35) (by decide +kernel))) hK hP hD hS hA rfl (fun j hj => by rcases (show j = 0 ∨ j = 1 by omega) with rfl | rfl <;> rfl) (Nat.le_of_ble_eq_true rfl) (Nat.le_of_ble_eq_true rfl) dX9_init_32 (fun b1 H hP hD hS => ?_)
  refine lv_dup hx hb dX9_init_35 rfl ?_
  refine c_nest (e0 := .inr (1, [.null, .null])) (cw := fun u => cwX1 K b1 u) hx hb hml hown hts (c_X1_init l D K b1 H.size) (gin_ok (p := 71) (by decide +kernel)) (hN.1 (29, yX1_init) (List.mem_of_getElem? (i := 0) rfl)) (hts _ (gin_ok (p := 35) (by decide +kernel))) (hts _ (gin_ok (p := 70) (by decide +kernel))) rfl (by decide +kernel) hK hP hD hS hA hl.1 (Nat.le_of_ble_eq_true rfl) hRf hRl (Nat.le_of_ble_eq_true rfl) (Nat.le_of_ble_eq_true rfl) dX9_init_36 (fun u1 H locs hP hD hS => ?_)
  rw [List.append_assoc] at hP hD
  have hP : va_P D gCl ([(h0, .inr (9, [.ref a0, .ref a1, .ref a2, .null, .null, .null, .null, .null, .null, .int 0, .int 0])), (a0, .inl (K 3, 8, cArr [])), (a1, .inl (K 4, 8, cArr [])), (a2, .inl (K 5, 6, cArr []))] ++ ([] ++ cwX1 K b1 u1)) H := hP
  have hD : va_D A ([(h0, .inr (9, [.ref a0, .ref a1, .ref a2, .null, .null, .null, .null, .null, .null, .int 0, .int 0])), (a0, .inl (K 3, 8, cArr [])), (a1, .inl (K 4, 8, cArr [])), (a2, .inl (K 5, 6, cArr []))] ++ ([] ++ cwX1 K b1 u1)) := hD
  refine va_putF (D := D) (ci := 9) (ty := tyX9 3) (C := RX9) (T := TX9) (N := 11) hx hb hts gclk9.2.2.1 tyX9 gclk9.2.2.2.1 gclk9.2.2.2.2.1 hown hK hP hD hS 0 rfl rfl 3 (by decide) (hts _ (gin_ok (p := 241) (by decide +kernel))) (fun _ h9 => h9) rfl hin rfl (v := .ref b1) (gclk9.2.2.2.1 3 (by decide)) rfl rfl (Nat.le_of_ble_eq_true rfl) dX9_init_39 (fun H locs hP hD hS => ?_)
  have hP : va_P D gCl ([(h0, .inr (9, [.ref a0, .ref a1, .ref a2, .ref b1, .null, .null, .null, .null, .null, .int 0, .int 0])), (a0, .inl (K 3, 8, cArr [])), (a1, .inl (K 4, 8, cArr [])), (a2, .inl (K 5, 6, cArr []))] ++ ([] ++ cwX1 K b1 u1)) H := hP
  have hD : va_D A ([(h0, .inr (9, [.ref a0, .ref a1, .ref a2, .ref b1, .null, .null, .null, .null, .null, .int 0, .int 0])), (a0, .inl (K 3, 8, cArr [])), (a1, .inl (K 4, 8, cArr [])), (a2, .inl (K 5, 6, cArr []))] ++ ([] ++ cwX1 K b1 u1)) := hD
  refine lv_aload_n hx hb dX9_init_42 rfl (lv_at hl 0 rfl) ?_
  refine va_new (ci := 7) (fs := [.null, .int 0, .int 0, .int 0, .int 0, .int 0]) (C := RX7) (T := TX7) (N := 6) hx hb hts gclk7.2.2.1 tyX7 gclk7.2.2.2.1 hown (hts _ (gin_ok (p := 81) (by decide +kernel))) (hts _ (gin_ok (p := 82) (by decide +kernel))) (hts _ (gin_ok (p := 36) (by decide +kernel))) hK hP hD hS hA rfl (fun j hj => by rcases (show j = 0 ∨ j = 1 ∨ j = 2 ∨ j = 3 ∨ j = 4 ∨ j = 5 by omega) with rfl | rfl | rfl | rfl | rfl | rfl <;> rfl) (Nat.le_of_ble_eq_true rfl) (Nat.le_of_ble_eq_true rfl) dX9_init_43 (fun b7 H hP hD hS => ?_)
  refine lv_dup hx hb dX9_init_46 rfl ?_
  refine c_nest (e0 := .inr (7, [.null, .int 0, .int 0, .int 0, .int 0, .int 0])) (cw := fun u => cwX7 K b7 u) hx hb hml hown hts (c_X7_init l D K b7 H.size) (gin_ok (p := 85) (by decide +kernel)) (hN.1 (36, yX7_init) (List.mem_of_getElem? (i := 1) rfl)) (hts _ (gin_ok (p := 36) (by decide +kernel))) (hts _ (gin_ok (p := 84) (by decide +kernel))) rfl (by decide +kernel) hK hP hD hS hA hl.1 (Nat.le_of_ble_eq_true rfl) hRf hRl (Nat.le_of_ble_eq_true rfl) (Nat.le_of_ble_eq_true rfl) dX9_init_47 (fun u7 H locs hP hD hS => ?_)
  rw [List.append_assoc] at hP hD
  have hP : va_P D gCl ([(h0, .inr (9, [.ref a0, .ref a1, .ref a2, .ref b1, .null, .null, .null, .null, .null, .int 0, .int 0])), (a0, .inl (K 3, 8, cArr [])), (a1, .inl (K 4, 8, cArr [])), (a2, .inl (K 5, 6, cArr []))] ++ (([] ++ cwX1 K b1 u1) ++ cwX7 K b7 u7)) H := hP
  have hD : va_D A ([(h0, .inr (9, [.ref a0, .ref a1, .ref a2, .ref b1, .null, .null, .null, .null, .null, .int 0, .int 0])), (a0, .inl (K 3, 8, cArr [])), (a1, .inl (K 4, 8, cArr [])), (a2, .inl (K 5, 6, cArr []))] ++ (([] ++ cwX1 K b1 u1) ++ cwX7 K b7 u7)) := hD
  refine va_putF (D := D) (ci := 9) (ty := tyX9 4) (C := RX9) (T := TX9) (N := 11) hx hb hts gclk9.2.2.1 tyX9 gclk9.2.2.2.1 gclk9.2.2.2.2.1 hown hK hP hD hS 0 rfl rfl 4 (by decide) (hts _ (gin_ok (p := 242) (by decide +kernel))) (fun _ h9 => h9) rfl hin rfl (v := .ref b7) (gclk9.2.2.2.1 4 (by decide)) rfl rfl (Nat.le_of_ble_eq_true rfl) dX9_init_50 (fun H locs hP hD hS => ?_)
  have hP : va_P D gCl ([(h0, .inr (9, [.ref a0, .ref a1, .ref a2, .ref b1, .ref b7, .null, .null, .null, .null, .int 0, .int 0])), (a0, .inl (K 3, 8, cArr [])), (a1, .inl (K 4, 8, cArr [])), (a2, .inl (K 5, 6, cArr []))] ++ (([] ++ cwX1 K b1 u1) ++ cwX7 K b7 u7)) H := hP
  have hD : va_D A ([(h0, .inr (9, [.ref a0, .ref a1, .ref a2, .ref b1, .ref b7, .null, .null, .null, .null, .int 0, .int 0])), (a0, .inl (K 3, 8, cArr [])), (a1, .inl (K 4, 8, cArr [])), (a2, .inl (K 5, 6, cArr []))] ++ (([] ++ cwX1 K b1 u1) ++ cwX7 K b7 u7)) := hD
  refine lv_aload_n hx hb dX9_init_53 rfl (lv_at hl 0 rfl) ?_
  refine va_new (ci := 5) (fs := [.null, .null, .int 0, .int 0, .int 0]) (C := RX5) (T := TX5) (N := 5) hx hb hts gclk5.2.2.1 tyX5 gclk5.2.2.2.1 hown (hts _ (gin_ok (p := 111) (by decide +kernel))) (hts _ (gin_ok (p := 112) (by decide +kernel))) (hts _ (gin_ok (p := 37) (by decide +kernel))) hK hP hD hS hA rfl (fun j hj => by rcases (show j = 0 ∨ j = 1 ∨ j = 2 ∨ j = 3 ∨ j = 4 by omega) with rfl | rfl | rfl | rfl | rfl <;> rfl) (Nat.le_of_ble_eq_true rfl) (Nat.le_of_ble_eq_true rfl) dX9_init_54 (fun b5 H hP hD hS => ?_)
  refine lv_dup hx hb dX9_init_57 rfl ?_
  refine c_nest (e0 := .inr (5, [.null, .null, .int 0, .int 0, .int 0])) (cw := fun u => cwX5 K b5 u) hx hb hml hown hts (c_X5_init l D K b5 H.size) (gin_ok (p := 115) (by decide +kernel)) (hN.1 (43, yX5_init) (List.mem_of_getElem? (i := 2) rfl)) (hts _ (gin_ok (p := 37) (by decide +kernel))) (hts _ (gin_ok (p := 114) (by decide +kernel))) rfl (by decide +kernel) hK hP hD hS hA hl.1 (Nat.le_of_ble_eq_true rfl) hRf hRl (Nat.le_of_ble_eq_true rfl) (Nat.le_of_ble_eq_true rfl) dX9_init_58 (fun u5 H locs hP hD hS => ?_)
  rw [List.append_assoc] at hP hD
  have hP : va_P D gCl ([(h0, .inr (9, [.ref a0, .ref a1, .ref a2, .ref b1, .ref b7, .null, .null, .null, .null, .int 0, .int 0])), (a0, .inl (K 3, 8, cArr [])), (a1, .inl (K 4, 8, cArr [])), (a2, .inl (K 5, 6, cArr []))] ++ ((([] ++ cwX1 K b1 u1) ++ cwX7 K b7 u7) ++ cwX5 K b5 u5)) H := hP
  have hD : va_D A ([(h0, .inr (9, [.ref a0, .ref a1, .ref a2, .ref b1, .ref b7, .null, .null, .null, .null, .int 0, .int 0])), (a0, .inl (K 3, 8, cArr [])), (a1, .inl (K 4, 8, cArr [])), (a2, .inl (K 5, 6, cArr []))] ++ ((([] ++ cwX1 K b1 u1) ++ cwX7 K b7 u7) ++ cwX5 K b5 u5)) := hD
  refine va_putF (D := D) (ci := 9) (ty := tyX9 5) (C := RX9) (T := TX9) (N := 11) hx hb hts gclk9.2.2.1 tyX9 gclk9.2.2.2.1 gclk9.2.2.2.2.1 hown hK hP hD hS 0 rfl rfl 5 (by decide) (hts _ (gin_ok (p := 243) (by decide +kernel))) (fun _ h9 => h9) rfl hin rfl (v := .ref b5) (gclk9.2.2.2.1 5 (by decide)) rfl rfl (Nat.le_of_ble_eq_true rfl) dX9_init_61 (fun H locs hP hD hS => ?_)
  have hP : va_P D gCl ([(h0, .inr (9, [.ref a0, .ref a1, .ref a2, .ref b1, .ref b7, .ref b5, .null, .null, .null, .int 0, .int 0])), (a0, .inl (K 3, 8, cArr [])), (a1, .inl (K 4, 8, cArr [])), (a2, .inl (K 5, 6, cArr []))] ++ ((([] ++ cwX1 K b1 u1) ++ cwX7 K b7 u7) ++ cwX5 K b5 u5)) H := hP
  have hD : va_D A ([(h0, .inr (9, [.ref a0, .ref a1, .ref a2, .ref b1, .ref b7, .ref b5, .null, .null, .null, .int 0, .int 0])), (a0, .inl (K 3, 8, cArr [])), (a1, .inl (K 4, 8, cArr [])), (a2, .inl (K 5, 6, cArr []))] ++ ((([] ++ cwX1 K b1 u1) ++ cwX7 K b7 u7) ++ cwX5 K b5 u5)) := hD
  refine lv_aload_n hx hb dX9_init_64 rfl (lv_at hl 0 rfl) ?_
  refine va_new (ci := 4) (fs := [.null, .int 0]) (C := RX4) (T := TX4) (N := 2) hx hb hts gclk4.2.2.1 tyX4 gclk4.2.2.2.1 hown (hts _ (gin_ok (p := 139) (by decide +kernel))) (hts _ (gin_ok (p := 140) (by decide +kernel))) (hts _ (gin_ok (p := 38) (by decide +kernel))) hK hP hD hS hA rfl (fun j hj => by rcases (show j = 0 ∨ j = 1 by omega) with rfl | rfl <;> rfl) (Nat.le_of_ble_eq_true rfl) (Nat.le_of_ble_eq_true rfl) dX9_init_65 (fun b4 H hP hD hS => ?_)
  refine lv_dup hx hb dX9_init_68 rfl ?_
  refine c_nest (e0 := .inr (4, [.null, .int 0])) (cw := fun u => cwX4 K b4 u) hx hb hml hown hts (c_X4_init l D K b4 H.size) (gin_ok (p := 143) (by decide +kernel)) (hN.1 (50, yX4_init) (List.mem_of_getElem? (i := 3) rfl)) (hts _ (gin_ok (p := 38) (by decide +kernel))) (hts _ (gin_ok (p := 142) (by decide +kernel))) rfl (by decide +kernel) hK hP hD hS hA hl.1 (Nat.le_of_ble_eq_true rfl) hRf hRl (Nat.le_of_ble_eq_true rfl) (Nat.le_of_ble_eq_true rfl) dX9_init_69 (fun u4 H locs hP hD hS => ?_)
  rw [List.append_assoc] at hP hD
  have hP : va_P D gCl ([(h0, .inr (9, [.ref a0, .ref a1, .ref a2, .ref b1, .ref b7, .ref b5, .null, .null, .null, .int 0, .int 0])), (a0, .inl (K 3, 8, cArr [])), (a1, .inl (K 4, 8, cArr [])), (a2, .inl (K 5, 6, cArr []))] ++ (((([] ++ cwX1 K b1 u1) ++ cwX7 K b7 u7) ++ cwX5 K b5 u5) ++ cwX4 K b4 u4)) H := hP
  have hD : va_D A ([(h0, .inr (9, [.ref a0, .ref a1, .ref a2, .ref b1, .ref b7, .ref b5, .null, .null, .null, .int 0, .int 0])), (a0, .inl (K 3, 8, cArr [])), (a1, .inl (K 4, 8, cArr [])), (a2, .inl (K 5, 6, cArr []))] ++ (((([] ++ cwX1 K b1 u1) ++ cwX7 K b7 u7) ++ cwX5 K b5 u5) ++ cwX4 K b4 u4)) := hD
  refine va_putF (D := D) (ci := 9) (ty := tyX9 6) (C := RX9) (T := TX9) (N := 11) hx hb hts gclk9.2.2.1 tyX9 gclk9.2.2.2.1 gclk9.2.2.2.2.1 hown hK hP hD hS 0 rfl rfl 6 (by decide) (hts _ (gin_ok (p := 244) (by decide +kernel))) (fun _ h9 => h9) rfl hin rfl (v := .ref b4) (gclk9.2.2.2.1 6 (by decide)) rfl rfl (Nat.le_of_ble_eq_true rfl) dX9_init_72 (fun H locs hP hD hS => ?_)
  have hP : va_P D gCl ([(h0, .inr (9, [.ref a0, .ref a1, .ref a2, .ref b1, .ref b7, .ref b5, .ref b4, .null, .null, .int 0, .int 0])), (a0, .inl (K 3, 8, cArr [])), (a1, .inl (K 4, 8, cArr [])), (a2, .inl (K 5, 6, cArr []))] ++ (((([] ++ cwX1 K b1 u1) ++ cwX7 K b7 u7) ++ cwX5 K b5 u5) ++ cwX4 K b4 u4)) H := hP
  have hD : va_D A ([(h0, .inr (9, [.ref a0, .ref a1, .ref a2, .ref b1, .ref b7, .ref b5, .ref b4, .null, .null, .int 0, .int 0])), (a0, .inl (K 3, 8, cArr [])), (a1, .inl (K 4, 8, cArr [])), (a2, .inl (K 5, 6, cArr []))] ++ (((([] ++ cwX1 K b1 u1) ++ cwX7 K b7 u7) ++ cwX5 K b5 u5) ++ cwX4 K b4 u4)) := hD
  refine lv_aload_n hx hb dX9_init_75 rfl (lv_at hl 0 rfl) ?_
  refine va_new (ci := 2) (fs := [.null, .null, .null]) (C := RX2) (T := TX2) (N := 3) hx hb hts gclk2.2.2.1 tyX2 gclk2.2.2.2.1 hown (hts _ (gin_ok (p := 152) (by decide +kernel))) (hts _ (gin_ok (p := 153) (by decide +kernel))) (hts _ (gin_ok (p := 39) (by decide +kernel))) hK hP hD hS hA rfl (fun j hj => by rcases (show j = 0 ∨ j = 1 ∨ j = 2 by omega) with rfl | rfl | rfl <;> rfl) (Nat.le_of_ble_eq_true rfl) (Nat.le_of_ble_eq_true rfl) dX9_init_76 (fun b2 H hP hD hS => ?_)
  refine lv_dup hx hb dX9_init_79 rfl ?_
  refine c_nest (e0 := .inr (2, [.null, .null, .null])) (cw := fun u => cwX2 K b2 u) hx hb hml hown hts (c_X2_init l D K b2 H.size) (gin_ok (p := 156) (by decide +kernel)) (hN.1 (57, yX2_init) (List.mem_of_getElem? (i := 4) rfl)) (hts _ (gin_ok (p := 39) (by decide +kernel))) (hts _ (gin_ok (p := 155) (by decide +kernel))) rfl (by decide +kernel) hK hP hD hS hA hl.1 (Nat.le_of_ble_eq_true rfl) hRf hRl (Nat.le_of_ble_eq_true rfl) (Nat.le_of_ble_eq_true rfl) dX9_init_80 (fun u2 H locs hP hD hS => ?_)
  rw [List.append_assoc] at hP hD
  have hP : va_P D gCl ([(h0, .inr (9, [.ref a0, .ref a1, .ref a2, .ref b1, .ref b7, .ref b5, .ref b4, .null, .null, .int 0, .int 0])), (a0, .inl (K 3, 8, cArr [])), (a1, .inl (K 4, 8, cArr [])), (a2, .inl (K 5, 6, cArr []))] ++ ((((([] ++ cwX1 K b1 u1) ++ cwX7 K b7 u7) ++ cwX5 K b5 u5) ++ cwX4 K b4 u4) ++ cwX2 K b2 u2)) H := hP
  have hD : va_D A ([(h0, .inr (9, [.ref a0, .ref a1, .ref a2, .ref b1, .ref b7, .ref b5, .ref b4, .null, .null, .int 0, .int 0])), (a0, .inl (K 3, 8, cArr [])), (a1, .inl (K 4, 8, cArr [])), (a2, .inl (K 5, 6, cArr []))] ++ ((((([] ++ cwX1 K b1 u1) ++ cwX7 K b7 u7) ++ cwX5 K b5 u5) ++ cwX4 K b4 u4) ++ cwX2 K b2 u2)) := hD
  refine va_putF (D := D) (ci := 9) (ty := tyX9 7) (C := RX9) (T := TX9) (N := 11) hx hb hts gclk9.2.2.1 tyX9 gclk9.2.2.2.1 gclk9.2.2.2.2.1 hown hK hP hD hS 0 rfl rfl 7 (by decide) (hts _ (gin_ok (p := 245) (by decide +kernel))) (fun _ h9 => h9) rfl hin rfl (v := .ref b2) (gclk9.2.2.2.1 7 (by decide)) rfl rfl (Nat.le_of_ble_eq_true rfl) dX9_init_83 (fun H locs hP hD hS => ?_)
  have hP : va_P D gCl ([(h0, .inr (9, [.ref a0, .ref a1, .ref a2, .ref b1, .ref b7, .ref b5, .ref b4, .ref b2, .null, .int 0, .int 0])), (a0, .inl (K 3, 8, cArr [])), (a1, .inl (K 4, 8, cArr [])), (a2, .inl (K 5, 6, cArr []))] ++ ((((([] ++ cwX1 K b1 u1) ++ cwX7 K b7 u7) ++ cwX5 K b5 u5) ++ cwX4 K b4 u4) ++ cwX2 K b2 u2)) H := hP
  have hD : va_D A ([(h0, .inr (9, [.ref a0, .ref a1, .ref a2, .ref b1, .ref b7, .ref b5, .ref b4, .ref b2, .null, .int 0, .int 0])), (a0, .inl (K 3, 8, cArr [])), (a1, .inl (K 4, 8, cArr [])), (a2, .inl (K 5, 6, cArr []))] ++ ((((([] ++ cwX1 K b1 u1) ++ cwX7 K b7 u7) ++ cwX5 K b5 u5) ++ cwX4 K b4 u4) ++ cwX2 K b2 u2)) := hD
  refine lv_aload_n hx hb dX9_init_86 rfl (lv_at hl 0 rfl) ?_
  refine va_new (ci := 0) (fs := [.null, .int 0]) (C := RX0) (T := TX0) (N := 2) hx hb hts gclk0.2.2.1 tyX0 gclk0.2.2.2.1 hown (hts _ (gin_ok (p := 168) (by decide +kernel))) (hts _ (gin_ok (p := 169) (by decide +kernel))) (hts _ (gin_ok (p := 40) (by decide +kernel))) hK hP hD hS hA rfl (fun j hj => by rcases (show j = 0 ∨ j = 1 by omega) with rfl | rfl <;> rfl) (Nat.le_of_ble_eq_true rfl) (Nat.le_of_ble_eq_true rfl) dX9_init_87 (fun b0 H hP hD hS => ?_)
  refine lv_dup hx hb dX9_init_90 rfl ?_
  refine c_nest (e0 := .inr (0, [.null, .int 0])) (cw := fun u => cwX0 K b0 u) hx hb hml hown hts (c_X0_init l D K b0 H.size) (gin_ok (p := 172) (by decide +kernel)) (hN.1 (64, yX0_init) (List.mem_of_getElem? (i := 5) rfl)) (hts _ (gin_ok (p := 40) (by decide +kernel))) (hts _ (gin_ok (p := 171) (by decide +kernel))) rfl (by decide +kernel) hK hP hD hS hA hl.1 (Nat.le_of_ble_eq_true rfl) hRf hRl (Nat.le_of_ble_eq_true rfl) (Nat.le_of_ble_eq_true rfl) dX9_init_91 (fun u0 H locs hP hD hS => ?_)
  rw [List.append_assoc] at hP hD
  have hP : va_P D gCl ([(h0, .inr (9, [.ref a0, .ref a1, .ref a2, .ref b1, .ref b7, .ref b5, .ref b4, .ref b2, .null, .int 0, .int 0])), (a0, .inl (K 3, 8, cArr [])), (a1, .inl (K 4, 8, cArr [])), (a2, .inl (K 5, 6, cArr []))] ++ (((((([] ++ cwX1 K b1 u1) ++ cwX7 K b7 u7) ++ cwX5 K b5 u5) ++ cwX4 K b4 u4) ++ cwX2 K b2 u2) ++ cwX0 K b0 u0)) H := hP
  have hD : va_D A ([(h0, .inr (9, [.ref a0, .ref a1, .ref a2, .ref b1, .ref b7, .ref b5, .ref b4, .ref b2, .null, .int 0, .int 0])), (a0, .inl (K 3, 8, cArr [])), (a1, .inl (K 4, 8, cArr [])), (a2, .inl (K 5, 6, cArr []))] ++ (((((([] ++ cwX1 K b1 u1) ++ cwX7 K b7 u7) ++ cwX5 K b5 u5) ++ cwX4 K b4 u4) ++ cwX2 K b2 u2) ++ cwX0 K b0 u0)) := hD
  refine va_putF (D := D) (ci := 9) (ty := tyX9 8) (C := RX9) (T := TX9) (N := 11) hx hb hts gclk9.2.2.1 tyX9 gclk9.2.2.2.1 gclk9.2.2.2.2.1 hown hK hP hD hS 0 rfl rfl 8 (by decide) (hts _ (gin_ok (p := 246) (by decide +kernel))) (fun _ h9 => h9) rfl hin rfl (v := .ref b0) (gclk9.2.2.2.1 8 (by decide)) rfl rfl (Nat.le_of_ble_eq_true rfl) dX9_init_94 (fun H locs hP hD hS => ?_)
  have hP : va_P D gCl ([(h0, .inr (9, [.ref a0, .ref a1, .ref a2, .ref b1, .ref b7, .ref b5, .ref b4, .ref b2, .ref b0, .int 0, .int 0])), (a0, .inl (K 3, 8, cArr [])), (a1, .inl (K 4, 8, cArr [])), (a2, .inl (K 5, 6, cArr []))] ++ (((((([] ++ cwX1 K b1 u1) ++ cwX7 K b7 u7) ++ cwX5 K b5 u5) ++ cwX4 K b4 u4) ++ cwX2 K b2 u2) ++ cwX0 K b0 u0)) H := hP
  have hD : va_D A ([(h0, .inr (9, [.ref a0, .ref a1, .ref a2, .ref b1, .ref b7, .ref b5, .ref b4, .ref b2, .ref b0, .int 0, .int 0])), (a0, .inl (K 3, 8, cArr [])), (a1, .inl (K 4, 8, cArr [])), (a2, .inl (K 5, 6, cArr []))] ++ (((((([] ++ cwX1 K b1 u1) ++ cwX7 K b7 u7) ++ cwX5 K b5 u5) ++ cwX4 K b4 u4) ++ cwX2 K b2 u2) ++ cwX0 K b0 u0)) := hD
  refine lv_aload_n hx hb dX9_init_97 rfl (lv_at hl 0 rfl) ?_
  refine lv_iconst (v := 0) hx hb dX9_init_98 (by decide) ?_
  refine va_put (D := D) (ci := 9) (ty := tyX9 9) (C := RX9) (T := TX9) (N := 11) hx hb hts gclk9.2.2.1 tyX9 gclk9.2.2.2.1 gclk9.2.2.2.2.1 hown hK hP hD hS 0 rfl rfl 9 (by decide) (hts _ (gin_ok (p := 247) (by decide +kernel))) (fun _ h9 => h9) rfl (v := .int 0) (gclk9.2.2.2.1 9 (by decide)) rfl rfl (Nat.le_of_ble_eq_true rfl) dX9_init_99 (fun H locs hP hD hS => ?_)
  have hP : va_P D gCl ([(h0, .inr (9, [.ref a0, .ref a1, .ref a2, .ref b1, .ref b7, .ref b5, .ref b4, .ref b2, .ref b0, .int 0, .int 0])), (a0, .inl (K 3, 8, cArr [])), (a1, .inl (K 4, 8, cArr [])), (a2, .inl (K 5, 6, cArr []))] ++ (((((([] ++ cwX1 K b1 u1) ++ cwX7 K b7 u7) ++ cwX5 K b5 u5) ++ cwX4 K b4 u4) ++ cwX2 K b2 u2) ++ cwX0 K b0 u0)) H := hP
  have hD : va_D A ([(h0, .inr (9, [.ref a0, .ref a1, .ref a2, .ref b1, .ref b7, .ref b5, .ref b4, .ref b2, .ref b0, .int 0, .int 0])), (a0, .inl (K 3, 8, cArr [])), (a1, .inl (K 4, 8, cArr [])), (a2, .inl (K 5, 6, cArr []))] ++ (((((([] ++ cwX1 K b1 u1) ++ cwX7 K b7 u7) ++ cwX5 K b5 u5) ++ cwX4 K b4 u4) ++ cwX2 K b2 u2) ++ cwX0 K b0 u0)) := hD
  refine lv_aload_n hx hb dX9_init_102 rfl (lv_at hl 0 rfl) ?_
  refine lv_iconst (v := 0) hx hb dX9_init_103 (by decide) ?_
  refine va_put (D := D) (ci := 9) (ty := tyX9 10) (C := RX9) (T := TX9) (N := 11) hx hb hts gclk9.2.2.1 tyX9 gclk9.2.2.2.1 gclk9.2.2.2.2.1 hown hK hP hD hS 0 rfl rfl 10 (by decide) (hts _ (gin_ok (p := 248) (by decide +kernel))) (fun _ h9 => h9) rfl (v := .int 0) (gclk9.2.2.2.1 10 (by decide)) rfl rfl (Nat.le_of_ble_eq_true rfl) dX9_init_104 (fun H locs hP hD hS => ?_)
  have hP : va_P D gCl ([(h0, .inr (9, [.ref a0, .ref a1, .ref a2, .ref b1, .ref b7, .ref b5, .ref b4, .ref b2, .ref b0, .int 0, .int 0])), (a0, .inl (K 3, 8, cArr [])), (a1, .inl (K 4, 8, cArr [])), (a2, .inl (K 5, 6, cArr []))] ++ (((((([] ++ cwX1 K b1 u1) ++ cwX7 K b7 u7) ++ cwX5 K b5 u5) ++ cwX4 K b4 u4) ++ cwX2 K b2 u2) ++ cwX0 K b0 u0)) H := hP
  have hD : va_D A ([(h0, .inr (9, [.ref a0, .ref a1, .ref a2, .ref b1, .ref b7, .ref b5, .ref b4, .ref b2, .ref b0, .int 0, .int 0])), (a0, .inl (K 3, 8, cArr [])), (a1, .inl (K 4, 8, cArr [])), (a2, .inl (K 5, 6, cArr []))] ++ (((((([] ++ cwX1 K b1 u1) ++ cwX7 K b7 u7) ++ cwX5 K b5 u5) ++ cwX4 K b4 u4) ++ cwX2 K b2 u2) ++ cwX0 K b0 u0)) := hD
  refine lv_iconst (v := 0) hx hb dX9_init_107 (by decide) ?_
  refine lv_istore_n (lv' := [(1, .int 0), (0, .ref h0)]) hx hb dX9_init_108 rfl hl (by decide) rfl (fun ls hl => ?_)
  refine W.widen (k := 19 + 2 * ([] : List (Nat × List Nat)).length) (n := 1742 + 67 * ([] : List (Nat × List Nat)).length) (Nat.le_of_ble_eq_true rfl) (Nat.le_of_ble_eq_true rfl) ?_
  refine c9_loop6 (a := a0) (h0 := h0) (K := K) (D := D) (A := A) (fs := [.ref a0, .ref a1, .ref a2, .ref b1, .ref b7, .ref b5, .ref b4, .ref b2, .ref b0, .int 0, .int 0]) (x2 := (a1, .inl (K 4, 8, cArr []))) (x3 := (a2, .inl (K 5, 6, cArr []))) (X0 := (((((([] ++ cwX1 K b1 u1) ++ cwX7 K b7 u7) ++ cwX5 K b5 u5) ++ cwX4 K b4 u4) ++ cwX2 K b2 u2) ++ cwX0 K b0 u0)) hx hb hml hown hts hK hN hA hRf hRl (Nat.le_refl _) (Nat.le_refl _) rfl (fun l6 H locs ls hlen6 hP hD hS hl => ?_) 8 [] H locs ls rfl (by rw [List.flatMap_nil, List.append_nil]; exact hP) (by rw [List.flatMap_nil, List.append_nil]; exact hD) hS hl
  refine lv_iconst (v := 0) hx hb dX9_init_134 (by decide) ?_
  refine lv_istore_n (lv' := [(1, .int 0), (0, .ref h0)]) hx hb dX9_init_135 rfl hl (by decide) rfl (fun ls hl => ?_)
  refine W.widen (k := 35 + 3 * ([] : List (Nat × List Nat)).length) (n := 2278 + 34 * ([] : List (Nat × List Nat)).length) (Nat.le_of_ble_eq_true rfl) (Nat.le_of_ble_eq_true rfl) ?_
  refine c9_loop8 (a := a1) (h0 := h0) (K := K) (D := D) (A := A) (fs := [.ref a0, .ref a1, .ref a2, .ref b1, .ref b7, .ref b5, .ref b4, .ref b2, .ref b0, .int 0, .int 0]) (x1 := (a0, .inl (K 3, 8, cArr l6))) (x3 := (a2, .inl (K 5, 6, cArr []))) (X0 := ((((((([] ++ cwX1 K b1 u1) ++ cwX7 K b7 u7) ++ cwX5 K b5 u5) ++ cwX4 K b4 u4) ++ cwX2 K b2 u2) ++ cwX0 K b0 u0) ++ l6.flatMap (fun p => cwX6 K p.1 p.2))) hx hb hml hown hts hK hN hA hRf hRl (Nat.le_refl _) (Nat.le_refl _) rfl (fun l8 H locs ls hlen8 hP hD hS hl => ?_) 8 [] H locs ls rfl (by rw [List.flatMap_nil, List.append_nil]; exact hP) (by rw [List.flatMap_nil, List.append_nil]; exact hD) hS hl
  refine lv_iconst (v := 0) hx hb dX9_init_161 (by decide) ?_
  refine lv_istore_n (lv' := [(1, .int 0), (0, .ref h0)]) hx hb dX9_init_162 rfl hl (by decide) rfl (fun ls hl => ?_)
  refine W.widen (k := 59 + 2 * ([] : List (Nat × List Nat)).length) (n := 2550 + 19 * ([] : List (Nat × List Nat)).length) (Nat.le_of_ble_eq_true rfl) (Nat.le_of_ble_eq_true rfl) ?_
  refine c9_loop3 (a := a2) (h0 := h0) (K := K) (D := D) (A := A) (fs := [.ref a0, .ref a1, .ref a2, .ref b1, .ref b7, .ref b5, .ref b4, .ref b2, .ref b0, .int 0, .int 0]) (x1 := (a0, .inl (K 3, 8, cArr l6))) (x2 := (a1, .inl (K 4, 8, cArr l8))) (X0 := (((((((([] ++ cwX1 K b1 u1) ++ cwX7 K b7 u7) ++ cwX5 K b5 u5) ++ cwX4 K b4 u4) ++ cwX2 K b2 u2) ++ cwX0 K b0 u0) ++ l6.flatMap (fun p => cwX6 K p.1 p.2)) ++ l8.flatMap (fun p => cwX8 K p.1 p.2))) hx hb hml hown hts hK hN hA hRf hRl (Nat.le_refl _) (Nat.le_refl _) rfl (fun l3 H locs ls hlen3 hP hD hS hl => ?_) 6 [] H locs ls rfl (by rw [List.flatMap_nil, List.append_nil]; exact hP) (by rw [List.flatMap_nil, List.append_nil]; exact hD) hS hl
  exact W.vret hx hb hr (fun t ht hW => ⟨⟨((fun k => if k = 1 then (b1, u1) else if k = 7 then (b7, u7) else if k = 5 then (b5, u5) else if k = 4 then (b4, u4) else if k = 2 then (b2, u2) else if k = 0 then (b0, u0) else (0, [])), (fun k => if k = 0 then a0 else if k = 1 then a1 else a2), (fun k => if k = 6 then l6 else if k = 8 then l8 else l3)), rfl, ⟨hlen6, hlen8, hlen3⟩, by rw [ht]; exact hP, hD⟩, hS.F ht⟩) hS.2.2 dX9_init_188 hlk
