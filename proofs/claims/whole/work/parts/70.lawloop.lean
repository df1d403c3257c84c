/-! THE LAW'S LOOP AND ITS ENTRY -/
theorem cNest.same {u U : State} (hv : u.vm = U.vm) (h : cNest u) : cNest U := ⟨fun q hq => va_Nw.same rfl hv (h.1 q hq), va_AO.moved (by rw [hv]; exact Vm.Alike.refl U.vm) h.2.1, va_AO.moved (by rw [hv]; exact Vm.Alike.refl U.vm) h.2.2.1, va_AO.moved (by rw [hv]; exact Vm.Alike.refl U.vm) h.2.2.2⟩
theorem cNest.warm {s U : State} (hW : s.WarmedH U.vm) (h : cNest s) : cNest U := ⟨fun q hq => va_Nw.warmM hW (h.1 q hq), va_AO.moved hW.alike h.2.1, va_AO.moved hW.alike h.2.2.1, va_AO.moved hW.alike h.2.2.2⟩
section CTOR
variable {p : Program} {l : Launch} {e : Env} {R : Room} {s : State} {m : MethodId} {args : Array Value} {below : List Frame} {meth : Method} {c : Code} {H : Heap} {locs : List Loc} {cells slots : Nat} {Q : State → Prop}
variable {cc : ByteArray} {pc : Nat} {ls : Array Slot} {rest : List Value} {D : va_G} {A : Nat → Prop} {ws : va_W} {H0 : Heap}
/-- the law's call of a constructor -/
theorem c_law {U0 : Type} {y : MethodName} {bytes : ByteArray} {e0 : va_E} {cw : U0 → va_W} {post : U0 → Prop} {Pr : State → Prop} {mc ms nL mL index b fr lo : Nat} {own : String} (hexec : p.tables.exec = Jvm.exec) (hb : c.code = cc) (hml : c.maxLocals = nL) (hown : s.vm.findClass own = some m.cls) (hts : ∀ w ∈ gWs, w.before args s = true)
    (hM : Met l y (Cond.code y bytes mL none :: gWs) { frames := fr, cells := mc, slots := ms, locals := lo } (va_Pc [.ref b] Pr) (va_Qv post (fun u t => va_P D gCl (cw u) t.heap ∧ va_D (va_A [(b, e0)] H.size) (cw u)) (va_A [(b, e0)] H.size)) mc ms (va_A [(b, e0)] H.size))
    (hcode : Cond.code y bytes mL none ∈ gWs) (hlink : (Cond.methodLink own index y).before args s = true) (hini : (Cond.initialized y.cls).before args s = true) (hinst : (Cond.instanceMethod y).before args s = true) (hyn : y.name = "<init>") (hyd : y.cls ≠ "java/lang/invoke/MethodHandle" ∧ y.cls ≠ "java/lang/invoke/VarHandle" ∧ (parseMethodDescriptor y.desc).map (fun d => d.parameters.length) = some 0)
    (hbl : ∀ (a : Array Value) (U : State) (g : _) (mk : _), Pr U → Pr (U.calling g mk a)) (hpre : ∀ U : State, U.heap = H → s.WarmedH U.vm → va_P D gCl [(b, e0)] H → Pr U)
    (hP : va_P D gCl (ws ++ [(b, e0)]) H) (hD : va_D A (ws ++ [(b, e0)])) (hS : va_S A H0 H locs) (hA : ∀ q, H0.size ≤ q → A q) (hsz : ls.size = nL) (hrm : (rest.map fun v => v.category).sum ≤ 8) (hfr : fr + 1 ≤ R.frames) (hlo : 8 + (mL + 11) + lo ≤ R.locals) (hcl : cells + mc ≤ R.cells) (hsl : slots + ms ≤ R.slots) (hdg : decode cc pc = .ok (.invokespecial index, 3))
    (kk : ∀ (u : U0) (H1 : Heap) (locs1 : List Loc), post u → va_P D gCl (ws ++ cw u) H1 → va_D A (ws ++ cw u) → va_S A H0 H1 locs1 → W p l e R s m args below meth c H1 locs1 (cells + mc) (slots + ms) Q (F0 m (pc + 3) ls rest)) : W p l e R s m args below meth c H locs cells slots Q (F0 m pc ls (.ref b :: rest)) := by
  have hF := va_free (wc := [(b, e0)]) hD hS hA [ws.length] cj_last
  have hPc : va_P D gCl [(b, e0)] H := fun k q hk => by
    have h1 := (List.getElem?_eq_some_iff.mp hk).1
    rw [List.length_singleton] at h1
    have hz : k = 0 := by omega
    subst hz
    exact hP ws.length q (by rw [List.getElem?_append_right (Nat.le_refl _), Nat.sub_self]; exact hk)
  refine va_callv (va_runI (As := []) (rest := rest) ⟨hexec, hb, hml, hown, hts⟩ hM (cwI 0 hts (gws_good (my := (y, bytes, mL, none)) hcode) rfl rfl rfl hini hlink hinst hyn hyd ⟨hfr, hlo⟩) ⟨fun a U g mk q => ⟨q.1, hbl a U g mk q.2⟩, fun U hU hW => ⟨rfl, hpre U hU hW hPc⟩⟩ rfl rfl hsz rfl (lv_room hrm) hdg ⟨hcl, hsl⟩) hS (fun q _ h => hF q h) hF (fun u t H1 locs1 ht hvm hw hB hz1 hk1 hS1 => ?_)
  obtain ⟨hP1, hD1⟩ := hB
  rw [ht] at hP1
  obtain ⟨hP2, hD2⟩ := cj_join hP hD hk1 hF hP1 hD1
  exact kk u H1 locs1 hw hP2 hD2 hS1
end CTOR
theorem dL_law_0 : decode code 0 = .ok (.new 7, 3) := by decide +kernel
theorem dL_law_3 : decode code 3 = .ok (.dup, 1) := by decide +kernel
theorem dL_law_4 : decode code 4 = .ok (.invokespecial 9, 3) := by decide +kernel
theorem dL_law_7 : decode code 7 = .ok (.astore_n 1, 1) := by decide +kernel
theorem dL_law_8 : decode code 8 = .ok (.new 10, 3) := by decide +kernel
theorem dL_law_11 : decode code 11 = .ok (.dup, 1) := by decide +kernel
theorem dL_law_12 : decode code 12 = .ok (.invokespecial 12, 3) := by decide +kernel
theorem dL_law_15 : decode code 15 = .ok (.astore_n 2, 1) := by decide +kernel
theorem dL_law_16 : decode code 16 = .ok (.iconst 0, 1) := by decide +kernel
theorem dL_law_17 : decode code 17 = .ok (.istore_n 3, 1) := by decide +kernel
theorem dL_law_18 : decode code 18 = .ok (.iload_n 3, 1) := by decide +kernel
theorem dL_law_19 : decode code 19 = .ok (.aload_n 0, 1) := by decide +kernel
theorem dL_law_20 : decode code 20 = .ok (.arraylength, 1) := by decide +kernel
theorem dL_law_21 : decode code 21 = .ok (.bipush 6, 2) := by decide +kernel
theorem dL_law_23 : decode code 23 = .ok (.isub, 1) := by decide +kernel
theorem dL_law_24 : decode code 24 = .ok (.if_icmp .gt 1198, 3) := by decide +kernel
theorem dL_law_27 : decode code 27 = .ok (.aload_n 0, 1) := by decide +kernel
theorem dL_law_28 : decode code 28 = .ok (.iload_n 3, 1) := by decide +kernel
theorem dL_law_29 : decode code 29 = .ok (.iaload, 1) := by decide +kernel
theorem dL_law_30 : decode code 30 = .ok (.bipush 31, 2) := by decide +kernel
theorem dL_law_32 : decode code 32 = .ok (.iand, 1) := by decide +kernel
theorem dL_law_33 : decode code 33 = .ok (.tableswitch 1183 0 27 #[127, 170, 213, 276, 299, 362, 375, 388, 421, 464, 507, 541, 584, 637, 670, 703, 746, 799, 832, 876, 929, 972, 1035, 1058, 1091, 1124, 1147, 1170], 127) := by decide +kernel
theorem dL_law_1216 : decode code 1216 = .ok (.iinc 3 6, 3) := by decide +kernel
theorem dL_law_1219 : decode code 1219 = .ok (.goto (-1201), 3) := by decide +kernel
theorem dL_law_1222 : decode code 1222 = .ok (.iconst 1, 1) := by decide +kernel
theorem dL_law_1223 : decode code 1223 = .ok (.ireturn, 1) := by decide +kernel
set_option maxHeartbeats 4000000 in
set_option maxRecDepth 100000 in
theorem law_loop {p : Program} {l : Launch} {e : Env} {s : State} {m : MethodId} {below : List Frame} {meth : Method} {c : Code} {b L : Nat} {xs : Nat → Int32} {G : gG} (hL : L ≤ 3072) (C0 : lw_At p s m meth c b L xs) (E : gEv p room_1 s m #[Value.ref b] c G (fun q : Nat => s.heap.size ≤ q) 11 code 4 20 84 4034) : ∀ (n i : Nat) (σ : gT) (H : Heap) (locs : List Loc) (ls : Array Slot), L ≤ i + 6 * n → i ≤ L + 6 → gR σ → va_P G.2.2.1 gCl (gW G σ) H → va_S (fun q : Nat => s.heap.size ≤ q) s.heap H locs → lv_has ls 4 [(3, .int (nI i)), (2, .ref (G.1 10 0)), (1, .ref (G.1 9 0)), (0, .ref b)] → W p l e room_1 s m #[Value.ref b] below meth c H locs 84 4034 (lw_Z below #[Value.ref b] s) (F0 m 18 ls []) := by
  have C1 := C0
  obtain ⟨hx, hb, hr, hml, hown, hts0, hX, hbl, hlocks, hgv⟩ := C0
  have hbA : ¬ (fun q : Nat => s.heap.size ≤ q) b := Nat.not_le.mpr hbl
  intro n
  induction n with
  | zero =>
    intro i σ H locs ls hn hiL hR hP hS hl
    refine lv_iload_n hx hb dL_law_18 rfl (lv_at hl 0 rfl) ?_
    refine lv_aload_n hx hb dL_law_19 rfl (lv_at hl 3 rfl) ?_
    refine va_slen hx hb hX hbl hbA hS dL_law_20 ?_
    refine lv_bipush (v := 6) hx hb dL_law_21 (by decide) ?_
    refine lv_isub hx hb dL_law_23 ?_
    have e6 : (Int32.ofNat L - 6).toInt = (L : Int) - 6 := pk_sub_toInt (a := L) (b := 6) (by omega) (by decide)
    refine lv_icmp_gt (tgt := 1222) hx hb dL_law_24 (by decide) (fun c1 => ?_) (fun c1 => absurd (show Int32.ofNat L - 6 < nI i by rw [fa_lt, e6, nI_toInt (by omega)]; omega) c1)
    refine lv_iconst (v := 1) hx hb dL_law_1222 (by decide) ?_
    refine va_forget (fun q hq => hS.2.2 q hq) ?_
    refine W.widen (k := 600000) (n := 7302250) (by decide) (by decide) ?_
    exact lw_ret hx hb hr hlocks dL_law_1223
  | succ n ih =>
    intro i σ H locs ls hn hiL hR hP hS hl
    refine lv_iload_n hx hb dL_law_18 rfl (lv_at hl 0 rfl) ?_
    refine lv_aload_n hx hb dL_law_19 rfl (lv_at hl 3 rfl) ?_
    refine va_slen hx hb hX hbl hbA hS dL_law_20 ?_
    refine lv_bipush (v := 6) hx hb dL_law_21 (by decide) ?_
    refine lv_isub hx hb dL_law_23 ?_
    have e6 : (Int32.ofNat L - 6).toInt = (L : Int) - 6 := pk_sub_toInt (a := L) (b := 6) (by omega) (by decide)
    refine lv_icmp_gt (tgt := 1222) hx hb dL_law_24 (by decide) (fun c1 => ?_) (fun c1 => ?_)
    · refine lv_iconst (v := 1) hx hb dL_law_1222 (by decide) ?_
      refine va_forget (fun q hq => hS.2.2 q hq) ?_
      refine W.widen (k := 600000) (n := 7302250) (by decide) (by decide) ?_
      exact lw_ret hx hb hr hlocks dL_law_1223
    · have hi : i + 6 ≤ L := by
        have c2 : ¬ Int32.ofNat L - 6 < nI i := c1
        rw [fa_lt, e6, nI_toInt (by omega)] at c2
        omega
      have h0 : vp_in (nI i) L := vp_in_nI (by omega) (by omega)
      have kk : ∀ (σ2 : gT) (H2 : Heap) (locs2 : List Loc), gR σ2 → va_P G.2.2.1 gCl (gW G σ2) H2 → va_S (fun q : Nat => s.heap.size ≤ q) s.heap H2 locs2 → W p l e room_1 s m #[Value.ref b] below meth c H2 locs2 84 4034 (lw_Z below #[Value.ref b] s) (F0 m 1216 ls []) := by
        intro σ2 H2 locs2 hR2 hP2 hS2
        refine lv_iinc (v := nI (i + 6)) (lv' := [(3, .int (nI (i + 6))), (2, .ref (G.1 10 0)), (1, .ref (G.1 9 0)), (0, .ref b)]) hx hb dL_law_1216 hl (k := 0) rfl (nI_add i 6) (by decide) rfl (fun ls hl => ?_)
        refine lv_goto (tgt := 18) hx hb dL_law_1219 (by decide) ?_
        exact ih (i + 6) σ2 H2 locs2 ls (by omega) (by omega) hR2 hP2 hS2 hl
      refine lv_aload_n hx hb dL_law_27 rfl (lv_at hl 3 rfl) ?_
      refine lv_iload_n hx hb dL_law_28 rfl (lv_at hl 0 rfl) ?_
      refine va_sld hx hb hX hbl hbA hS h0 dL_law_29 ?_
      refine lv_bipush (v := 31) hx hb dL_law_30 (by decide) ?_
      refine lv_iand hx hb dL_law_32 ?_
      obtain ⟨j, hj, ej⟩ := pk_andE (xs (nI i).toNatClampNeg) (m := 31) 5 (by decide)
      rw [ej]
      by_cases hj27 : j ≤ 27
      · rcases (show j = 0 ∨ j = 1 ∨ j = 2 ∨ j = 3 ∨ j = 4 ∨ j = 5 ∨ j = 6 ∨ j = 7 ∨ j = 8 ∨ j = 9 ∨ j = 10 ∨ j = 11 ∨ j = 12 ∨ j = 13 ∨ j = 14 ∨ j = 15 ∨ j = 16 ∨ j = 17 ∨ j = 18 ∨ j = 19 ∨ j = 20 ∨ j = 21 ∨ j = 22 ∨ j = 23 ∨ j = 24 ∨ j = 25 ∨ j = 26 ∨ j = 27 by omega) with rfl | rfl | rfl | rfl | rfl | rfl | rfl | rfl | rfl | rfl | rfl | rfl | rfl | rfl | rfl | rfl | rfl | rfl | rfl | rfl | rfl | rfl | rfl | rfl | rfl | rfl | rfl | rfl
        · exact lv_tableIn (off := 127) (tgt := 160) hx hb dL_law_33 (by decide) (by decide) (by decide) (by decide) (law_c0 hL C1 E hi hR hP hS hl kk)
        · exact lv_tableIn (off := 170) (tgt := 203) hx hb dL_law_33 (by decide) (by decide) (by decide) (by decide) (law_c1 hL C1 E hi hR hP hS hl kk)
        · exact lv_tableIn (off := 213) (tgt := 246) hx hb dL_law_33 (by decide) (by decide) (by decide) (by decide) (law_c2 hL C1 E hi hR hP hS hl kk)
        · exact lv_tableIn (off := 276) (tgt := 309) hx hb dL_law_33 (by decide) (by decide) (by decide) (by decide) (law_c3 hL C1 E hi hR hP hS hl kk)
        · exact lv_tableIn (off := 299) (tgt := 332) hx hb dL_law_33 (by decide) (by decide) (by decide) (by decide) (law_c4 hL C1 E hi hR hP hS hl kk)
        · exact lv_tableIn (off := 362) (tgt := 395) hx hb dL_law_33 (by decide) (by decide) (by decide) (by decide) (law_c5 hL C1 E hi hR hP hS hl kk)
        · exact lv_tableIn (off := 375) (tgt := 408) hx hb dL_law_33 (by decide) (by decide) (by decide) (by decide) (law_c6 hL C1 E hi hR hP hS hl kk)
        · exact lv_tableIn (off := 388) (tgt := 421) hx hb dL_law_33 (by decide) (by decide) (by decide) (by decide) (law_c7 hL C1 E hi hR hP hS hl kk)
        · exact lv_tableIn (off := 421) (tgt := 454) hx hb dL_law_33 (by decide) (by decide) (by decide) (by decide) (law_c8 hL C1 E hi hR hP hS hl kk)
        · exact lv_tableIn (off := 464) (tgt := 497) hx hb dL_law_33 (by decide) (by decide) (by decide) (by decide) (law_c9 hL C1 E hi hR hP hS hl kk)
        · exact lv_tableIn (off := 507) (tgt := 540) hx hb dL_law_33 (by decide) (by decide) (by decide) (by decide) (law_c10 hL C1 E hi hR hP hS hl kk)
        · exact lv_tableIn (off := 541) (tgt := 574) hx hb dL_law_33 (by decide) (by decide) (by decide) (by decide) (law_c11 hL C1 E hi hR hP hS hl kk)
        · exact lv_tableIn (off := 584) (tgt := 617) hx hb dL_law_33 (by decide) (by decide) (by decide) (by decide) (law_c12 hL C1 E hi hR hP hS hl kk)
        · exact lv_tableIn (off := 637) (tgt := 670) hx hb dL_law_33 (by decide) (by decide) (by decide) (by decide) (law_c13 hL C1 E hi hR hP hS hl kk)
        · exact lv_tableIn (off := 670) (tgt := 703) hx hb dL_law_33 (by decide) (by decide) (by decide) (by decide) (law_c14 hL C1 E hi hR hP hS hl kk)
        · exact lv_tableIn (off := 703) (tgt := 736) hx hb dL_law_33 (by decide) (by decide) (by decide) (by decide) (law_c15 hL C1 E hi hR hP hS hl kk)
        · exact lv_tableIn (off := 746) (tgt := 779) hx hb dL_law_33 (by decide) (by decide) (by decide) (by decide) (law_c16 hL C1 E hi hR hP hS hl kk)
        · exact lv_tableIn (off := 799) (tgt := 832) hx hb dL_law_33 (by decide) (by decide) (by decide) (by decide) (law_c17 hL C1 E hi hR hP hS hl kk)
        · exact lv_tableIn (off := 832) (tgt := 865) hx hb dL_law_33 (by decide) (by decide) (by decide) (by decide) (law_c18 hL C1 E hi hR hP hS hl kk)
        · exact lv_tableIn (off := 876) (tgt := 909) hx hb dL_law_33 (by decide) (by decide) (by decide) (by decide) (law_c19 hL C1 E hi hR hP hS hl kk)
        · exact lv_tableIn (off := 929) (tgt := 962) hx hb dL_law_33 (by decide) (by decide) (by decide) (by decide) (law_c20 hL C1 E hi hR hP hS hl kk)
        · exact lv_tableIn (off := 972) (tgt := 1005) hx hb dL_law_33 (by decide) (by decide) (by decide) (by decide) (law_c21 hL C1 E hi hR hP hS hl kk)
        · exact lv_tableIn (off := 1035) (tgt := 1068) hx hb dL_law_33 (by decide) (by decide) (by decide) (by decide) (law_c22 hL C1 E hi hR hP hS hl kk)
        · exact lv_tableIn (off := 1058) (tgt := 1091) hx hb dL_law_33 (by decide) (by decide) (by decide) (by decide) (law_c23 hL C1 E hi hR hP hS hl kk)
        · exact lv_tableIn (off := 1091) (tgt := 1124) hx hb dL_law_33 (by decide) (by decide) (by decide) (by decide) (law_c24 hL C1 E hi hR hP hS hl kk)
        · exact lv_tableIn (off := 1124) (tgt := 1157) hx hb dL_law_33 (by decide) (by decide) (by decide) (by decide) (law_c25 hL C1 E hi hR hP hS hl kk)
        · exact lv_tableIn (off := 1147) (tgt := 1180) hx hb dL_law_33 (by decide) (by decide) (by decide) (by decide) (law_c26 hL C1 E hi hR hP hS hl kk)
        · exact lv_tableIn (off := 1170) (tgt := 1203) hx hb dL_law_33 (by decide) (by decide) (by decide) (by decide) (law_c27 hL C1 E hi hR hP hS hl kk)
      · refine lv_tableOut (tgt := 1216) hx hb dL_law_33 (Or.inr (by rw [nI_toInt (by omega)]; omega)) (by decide) (kk σ H locs hR hP hS)
set_option maxHeartbeats 4000000 in
set_option maxRecDepth 100000 in
theorem whole_start {p : Program} {e : Env} {s : State} {m : MethodId} {below : List Frame} {meth : Method} {c : Code} (l : Launch) {b L : Nat} {xs : Nat → Int32} (hL : L ≤ 3072) (C0 : lw_At p s m meth c b L xs) : W p l e room_1 s m #[Value.ref b] below meth c s.heap [] 0 0 (lw_Z below #[Value.ref b] s) (entryFrame m ([Value.ref b] : List Value).toArray 4) := by
  have C1 := C0
  obtain ⟨hx, hb, hr, hml, hown, hts0, hX, hbl, hlocks, hgv⟩ := C0
  have hts : ∀ w ∈ gWs, w.before #[Value.ref b] s = true := fun w hw => hts0 w (List.mem_filter.mp hw).1
  have hN := ls_nest hts0
  obtain ⟨D, K, hK⟩ := ls_K hts hN.2.1 hN.2.2.1 hN.2.2.2
  obtain ⟨st, adK, adV, fv, hcat, hSt⟩ := ls_static (A := (fun q : Nat => s.heap.size ≤ q)) hts0 hgv (fun a ha => Nat.not_le.mpr ha)
  have hA : ∀ q : Nat, s.heap.size ≤ q → (fun q : Nat => s.heap.size ≤ q) q := fun _ h => h
  have hS : va_S (fun q : Nat => s.heap.size ≤ q) s.heap s.heap [] := va_S.rf
  have hP : va_P D gCl [] s.heap := fun k q h => by simp at h
  have hD : va_D (fun q : Nat => s.heap.size ≤ q) [] := ⟨fun i j p q h => by simp at h, fun k q h => by simp at h⟩
  have hl := lv_entry ([.ref b]) (n := 4) (Nat.le_of_ble_eq_true rfl)
  rw [lg_entry_eq]
  generalize (lg_sl ([.ref b]) ++ List.replicate (4 - (lg_sl ([.ref b])).length) Slot.unset).toArray = ls at hl ⊢
  have hl : lv_has ls 4 [(0, .ref b)] := hl
  refine va_new (ci := 9) (fs := [.null, .null, .null, .null, .null, .null, .null, .null, .null, .int 0, .int 0]) (C := RX9) (T := TX9) (N := 11) (own := RL) hx hb hts gclk9.2.2.1 tyX9 gclk9.2.2.2.1 hown (hts _ (gin_ok (p := 53) (by decide +kernel))) (hts _ (gin_ok (p := 54) (by decide +kernel))) (hts _ (gin_ok (p := 34) (by decide +kernel))) hK hP hD hS hA rfl (fun j hj => by rcases (show j = 0 ∨ j = 1 ∨ j = 2 ∨ j = 3 ∨ j = 4 ∨ j = 5 ∨ j = 6 ∨ j = 7 ∨ j = 8 ∨ j = 9 ∨ j = 10 by omega) with rfl | rfl | rfl | rfl | rfl | rfl | rfl | rfl | rfl | rfl | rfl <;> rfl) (by decide) (by decide) dL_law_0 (fun x H hP hD hS => ?_)
  refine lv_dup hx hb dL_law_3 rfl ?_
  have hP : va_P D gCl ([] ++ ciX9 x) H := hP
  have hD : va_D (fun q : Nat => s.heap.size ≤ q) ([] ++ ciX9 x) := hD
  refine c_law (own := RL) (index := 9) (y := yX9_init) (bytes := cX9_init) (mL := 2) (cw := fun u : cU => cw9 K x u) (post := fun u : cU => (u.2.2 6).length = 8 ∧ (u.2.2 8).length = 8 ∧ (u.2.2 3).length = 6) (Pr := cPre9 D K x H.size) (fr := 2) (lo := 32) hx hb hml hown hts (c_X9_init l D K x H.size) (gin_ok (p := 57) (by decide +kernel)) (hts _ (gin_ok (p := 55) (by decide +kernel))) (hts _ (gin_ok (p := 34) (by decide +kernel))) (hts _ (gin_ok (p := 56) (by decide +kernel))) rfl (by decide +kernel) (fun a U g mk q => ⟨⟨q.1.1, q.1.2.1, va_K.moved (u := U) (U := U.calling g mk a) (Vm.Alike.refl U.vm) q.1.2.2⟩, cNest.same rfl q.2⟩) (fun U hU hW hPc => ⟨⟨by rw [hU], by rw [hU]; exact hPc, va_K.moved hW.alike hK⟩, hN.warm hW⟩) hP hD hS hA hl.1 (Nat.le_of_ble_eq_true rfl) (by decide) (by decide) (by decide) (by decide) dL_law_4 (fun u H locs hlen hP hD hS => ?_)
  refine lv_astore_n (lv' := [(1, .ref x), (0, .ref b)]) hx hb dL_law_7 rfl hl (by decide) rfl (fun ls hl => ?_)
  refine va_new (ci := 10) (fs := [.int 0, .int 0, .null, .null, .null, .null, .null, .null, .null, .null, .int 0, .int 0, .int 0, .int 0, .int 0, .int 0, .int 0, .int 0, .int 0, .int 0, .int 0, .null, .null, .null, .int 0]) (C := RX10) (T := TX10) (N := 25) (own := RL) hx hb hts gclk10.2.2.1 tyX10 gclk10.2.2.2.1 hown (hts _ (gin_ok (p := 832) (by decide +kernel))) (hts _ (gin_ok (p := 833) (by decide +kernel))) (hts _ (gin_ok (p := 44) (by decide +kernel))) hK hP hD hS hA rfl (fun j hj => by rcases (show j = 0 ∨ j = 1 ∨ j = 2 ∨ j = 3 ∨ j = 4 ∨ j = 5 ∨ j = 6 ∨ j = 7 ∨ j = 8 ∨ j = 9 ∨ j = 10 ∨ j = 11 ∨ j = 12 ∨ j = 13 ∨ j = 14 ∨ j = 15 ∨ j = 16 ∨ j = 17 ∨ j = 18 ∨ j = 19 ∨ j = 20 ∨ j = 21 ∨ j = 22 ∨ j = 23 ∨ j = 24 by omega) with rfl | rfl | rfl | rfl | rfl | rfl | rfl | rfl | rfl | rfl | rfl | rfl | rfl | rfl | rfl | rfl | rfl | rfl | rfl | rfl | rfl | rfl | rfl | rfl | rfl <;> rfl) (by decide) (by decide) dL_law_8 (fun y H hP hD hS => ?_)
  refine lv_dup hx hb dL_law_11 rfl ?_
  have hP : va_P D gCl (([] ++ cw9 K x u) ++ ciX10 y) H := hP
  have hD : va_D (fun q : Nat => s.heap.size ≤ q) (([] ++ cw9 K x u) ++ ciX10 y) := hD
  refine c_law (own := RL) (index := 12) (y := yX10_init) (bytes := cX10_init) (mL := 1) (cw := fun v : List Nat => cwX10 K y v) (post := fun _ : List Nat => True) (Pr := cPre D K (ciX10 y) H.size) (fr := 1) (lo := 12) hx hb hml hown hts (c_X10_init l D K y H.size) (gin_ok (p := 836) (by decide +kernel)) (hts _ (gin_ok (p := 834) (by decide +kernel))) (hts _ (gin_ok (p := 44) (by decide +kernel))) (hts _ (gin_ok (p := 835) (by decide +kernel))) rfl (by decide +kernel) (fun a U g mk q => ⟨q.1, q.2.1, va_K.moved (u := U) (U := U.calling g mk a) (Vm.Alike.refl U.vm) q.2.2⟩) (fun U hU hW hPc => ⟨by rw [hU], by rw [hU]; exact hPc, va_K.moved hW.alike hK⟩) hP hD hS hA hl.1 (Nat.le_of_ble_eq_true rfl) (by decide) (by decide) (by decide) (by decide) dL_law_12 (fun v H locs _ hP hD hS => ?_)
  refine lv_astore_n (lv' := [(2, .ref y), (1, .ref x), (0, .ref b)]) hx hb dL_law_15 rfl hl (by decide) rfl (fun ls hl => ?_)
  refine lv_iconst (v := 0) hx hb dL_law_16 (by decide) ?_
  refine lv_istore_n (lv' := [(3, .int 0), (2, .ref y), (1, .ref x), (0, .ref b)]) hx hb dL_law_17 rfl hl (by decide) rfl (fun ls hl => ?_)
  rw [List.nil_append] at hP hD
  obtain ⟨gP, gG_⟩ := g_geo (st := st) (adK := adK) (adV := adV) (fv := fv) hlen.1 hlen.2.1 hlen.2.2 hP hD
  refine W.widen (k := 84) (n := 4034) (by decide) (by decide) ?_
  exact law_loop hL C1 (G := (cAd x y u.1 u.2.1 (u.2.2 6) (u.2.2 8) (u.2.2 3) v st adK adV, K, D, fv)) ⟨hx, hb, hml, hown, hts, hK, g_st hSt, gG_, hcat, ⟨by decide, by decide⟩, by decide, by decide⟩ (L + 1) 0 cS0 H locs ls (by omega) (by omega) gR_0 gP hS hl
