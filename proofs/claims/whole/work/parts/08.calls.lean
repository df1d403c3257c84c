/-! SOUNDNESS, calls; blocks; contracts -/
section SND
variable {p : Program} {l : Launch} {e : Env} {R : Room} {s : State} {m : MethodId} {args : Array Value} {below : List Frame} {meth : Method} {c : Code} {cells slots : Nat} {Q : State → Prop} {G : gG} {A : Nat → Prop} {nL o d : Nat} {cc : ByteArray} {rt : Option FieldType} {post : Option gAV → gT → Prop} {pc : Nat} {L : gLo} {st : gSk} {σ : gT} {kn : gLo → gSk → gT → Prop} {kj : gK}
/-- behind a call -/
theorem g_call {H : Heap} {locs : List Loc} {ls : Array Slot} {rest st0 : List Value} {a : Array Value} {post2 : Option gAV → gT → Prop} (hr : va_Run p l e R s m args below meth c H locs cells slots 0 0 (F0 m pc ls st0) rest (gQ G A post2 a) A) (hS : va_S A s.heap H locs)
    (kk : ∀ (r : Option gAV) (σ2 : gT) (H1 : Heap) (locs1 : List Loc), gokO r → post2 r σ2 → va_P G.2.2.1 gCl (gW G σ2) H1 → va_S A s.heap H1 locs1 → W p l e R s m args below meth c H1 locs1 cells slots Q (F0 m (pc + 3) ls ((r.map (gv G)).toList ++ rest))) : W p l e R s m args below meth c H locs cells slots Q (F0 m pc ls st0) := by
  intro T hT X
  obtain ⟨v, st₀, t, T', L, h0, X', hL, e1, e2, ⟨r, σ2, hv, hok, hp, hPw, hz, hk⟩, st⟩ := hr T hT X
  cases hv
  rw [h0] at hz hk
  obtain ⟨t2, a1, b1⟩ := kk r σ2 T'.heap (locs ++ L) hok hp (by rw [e1]; exact hPw)
    ⟨Nat.le_trans hS.1 (by rw [e1]; exact hz), fun q h1 h2 => by rw [e1, hk q (Nat.lt_of_lt_of_le h1 hS.1) h2]; exact hS.2.1 q h1 h2, fun q hq => by
      rcases List.mem_append.mp hq with h | h
      · exact hS.2.2 q h
      · exact hL q h⟩ T' rfl X'
  exact ⟨t2, st t2 a1, b1⟩
theorem gmap_toList (r : Option gAV) (rest : gSk) : (r.map (gv G)).toList ++ rest.map (gv G) = (r.toList ++ rest).map (gv G) := by
  cases r <;> rfl
theorem gst_split (st : gSk) (n : Nat) : st.map (gv G) = (((st.take n).reverse).map (gv G)).reverse ++ (st.drop n).map (gv G) := by
  rw [List.map_reverse, List.reverse_reverse, ← List.map_append, List.take_append_drop]
theorem gvs_ret {r : Option gAV} {rest : gSk} (h1 : gokO r) (h2 : gvs rest) : gvs (r.toList ++ rest) := by
  cases r with
  | none => exact h2
  | some v => exact ⟨h1, h2⟩
theorem gchkY_ok {my : gMY} {n : Nat} (h : gchkY my n = true) : plainFor my.1 = true ∧ (my.1.cls ≠ "java/lang/invoke/MethodHandle" ∧ my.1.cls ≠ "java/lang/invoke/VarHandle" ∧ (parseMethodDescriptor my.1.desc).map (fun d => d.parameters.length) = some n) ∧ my.2.2.1 ≤ 40 := by
  unfold gchkY at h
  simp only [Bool.and_eq_true, decide_eq_true_eq] at h
  obtain ⟨⟨⟨⟨h1, h2⟩, h3⟩, h4⟩, h5⟩ := h
  exact ⟨h1, ⟨h2, h3, h4⟩, h5⟩
theorem s_calls {idx : Nat} (E : gEv p R s m args c G A o cc nL d cells slots) (hd : decode cc pc = .ok (.invokestatic idx, 3)) (h : gx o rt post (gCx l G A d) pc L st σ kn kj (.invokestatic idx)) (Hn : ∀ L2 st2 σ2, kn L2 st2 σ2 → gWx p l e R s m args below meth c cells slots Q G A nL (pc + 3) L2 st2 σ2) : gWx p l e R s m args below meth c cells slots Q G A nL pc L st σ := by
  obtain ⟨hx, hb, hml, hown, hts, hK, hSt, hG, hcat, hR, hc1, hc2⟩ := id E
  by_cases hac : gacp o idx = true
  · intro hs hl H locs ls hP hS hL
    have h2 : gcopy st σ (fun r σ2 => kn L r σ2) := by
      have h3 : (match gacp o idx with
        | true => gcopy st σ fun r σ2 => kn L r σ2
        | false => gcalls (gCx l G A d) o idx st σ fun r σ2 => kn L r σ2) := h
      rw [hac] at h3
      exact h3
    clear h
    unfold gcopy at h2
    split at h2
    · rename_i n dp g b sp f a r
      split at h2
      · rename_i n0 z0 n1 z1 hA hB
        obtain ⟨c1, c2, c3, c4, c5, h2⟩ := h2
        obtain ⟨c6, h2⟩ := p_if h2
        obtain ⟨e0, he1, he2⟩ := List.any_eq_true.mp hac
        simp only [Bool.and_eq_true, beq_iff_eq] at he2
        have hlink := List.all_eq_true.mp gACL_ok _ he1
        rw [he2.1, he2.2] at hlink
        have hsys := gsys_ok
        rw [Bool.and_eq_true, Bool.and_eq_true] at hsys
        obtain ⟨k0, q1, q2⟩ := gW_at G σ (gA_lt hA) hs.2.2.2.2.1
        obtain ⟨k1, q3, q4⟩ := gW_at G σ (gA_lt hB) hs.2.2.1
        unfold gE at q2 q4
        rw [hA] at q2
        rw [hB] at q4
        have hf : ¬ f = 52 := by have := gA_lt hA; omega
        have hg : ¬ g = 52 := by have := gA_lt hB; omega
        rw [List.map_cons, List.map_cons, List.map_cons, List.map_cons, List.map_cons, gv_ref hf, gv_ref hg]
        refine va_copyi hx hb (by rw [hml]; exact hL.1.symm) hown (hts _ (gin_ok hlink)) (hts _ (gin_ok hsys.1.1)) (hts _ (gin_ok hsys.1.2)) (hts _ (gin_ok hsys.2)) hK hP (gW_D hG σ) hS k0 k1 0 0 q2 q4 (gTy_at G).1 (gTy_at G).1 rfl c1 c2 c3 c4 c5 (fun _ _ => rfl) (by omega) ?_ hd (fun H1 locs1 hP1 hD1 hS1 => ?_)
        · rw [gv_cats hcat]
          have hw : nativeFrameWords "java/lang/System" "arraycopy" 5 ≤ 30 := by decide +kernel
          omega
        · refine Hn _ _ _ h2 hs.2.2.2.2.2 hl H1 locs1 ls (gW_set (σ := σ) (σ' := gsc σ f a sp.toNatClampNeg g b dp.toNatClampNeg n.toNatClampNeg) hG q3 ?_ (fun q hq => gE_congr (fun c => gsc_ne hq) (fun c => rfl)) hP1) hS1 hL
          unfold gE
          rw [hB, gsc_eq]
          rfl
      · exact h2.elim
    · exact h2.elim
  · have h2 : gcalls (gCx l G A d) o idx st σ (fun r σ2 => kn L r σ2) := by
      have h3 : (match gacp o idx with
        | true => gcopy st σ fun r σ2 => kn L r σ2
        | false => gcalls (gCx l G A d) o idx st σ fun r σ2 => kn L r σ2) := h
      rw [Bool.eq_false_iff.mpr hac] at h3
      exact h3
    clear h
    intro hs hl H locs ls hP hS hL
    unfold gcalls at h2
    split at h2
    · rename_i q kd n my ps hq
      obtain ⟨hc, h2⟩ := p_if h2
      obtain ⟨e1, e2, e3⟩ := giv_mem hq
      dsimp only at e1
      subst e1
      unfold gchkI at e3
      rw [Bool.and_eq_true, Bool.and_eq_true] at e3
      obtain ⟨⟨w1, w2⟩, w3⟩ := e3
      dsimp only at w1 w2 w3
      have hM := h2 hG hcat (gvs_take hs)
      have hcw := gin_ok w1
      have hlen : (((st.take n).reverse).map (gv G)).length = n := by
        rw [List.length_map, List.length_reverse, List.length_take]
        omega
      have hroom : 2 * (F0 m pc ls (st.map (gv G))).monitorRoom + (((st.drop n).map (gv G)).map fun v => v.category).sum ≤ 8 := lv_room (by rw [gv_cats hcat]; exact hc.2.2)
      have hpre : PreS s H (va_Pc (((st.take n).reverse).map (gv G)) (gPre G A σ)) (((st.take n).reverse).map (gv G)) := ⟨gPre.blind G A σ _, fun U hU hW => ⟨rfl, by rw [hU]; exact hP, va_K.moved hW.alike hK, by rw [hU]; exact hSt.to hW hS.2.1⟩⟩
      have goon : va_Run p l e R s m args below meth c H locs cells slots 0 0 (F0 m pc ls (st.map (gv G))) ((st.drop n).map (gv G)) (gQ G A (fun r σ2 => kn L (r.toList ++ st.drop n) σ2) (((st.take n).reverse).map (gv G)).toArray) A → W p l e R s m args below meth c H locs cells slots Q (F0 m pc ls (st.map (gv G))) := fun hr => g_call hr hS (fun r σ2 H1 locs1 hok hp hP1 hS1 => by
        rw [gmap_toList]
        exact Hn _ _ _ hp (gvs_ret hok (gvs_drop n hs)) hl H1 locs1 ls hP1 hS1 hL)
      rcases hc.1 with rfl | rfl
      · replace w3 : (gchkY my n && gin (ps.getD 0 0) (Cond.methodLink (gcn o) q my.1) && gin (ps.getD 1 0) (Cond.static my.1)) = true := w3
        rw [Bool.and_eq_true, Bool.and_eq_true] at w3
        obtain ⟨⟨w4, w5⟩, w6⟩ := w3
        obtain ⟨y1, y2, y3⟩ := gchkY_ok w4
        exact goon (va_runS (bytes := my.2.1) (maxL := my.2.2.1) (ret := my.2.2.2) (n := n) ⟨hx, hb, hml, hown, hts⟩ hM ⟨callB_of n hts (gws_good hcw) rfl rfl rfl (hts _ (gin_ok w2)) (hts _ (gin_ok w5)) y2 ⟨hR.1, by show 8 + (my.2.2.1 + 11) + 64 * d ≤ R.locals; omega⟩, hts _ (gin_ok w6)⟩ hpre rfl hlen hL.1 (gst_split st n) hroom hd ⟨hc1, hc2⟩)
      · replace w3 : (gchkY my n && gin (ps.getD 1 0) (Cond.static my.1)) = true := w3
        rw [Bool.and_eq_true] at w3
        obtain ⟨w4, w6⟩ := w3
        obtain ⟨y1, y2, y3⟩ := gchkY_ok w4
        exact goon (va_runSN (bytes := my.2.1) (maxL := my.2.2.1) (ret := my.2.2.2) (n := n) (host := "GrainWaves") ⟨hx, hb, hml, hown, hts⟩ hM ⟨va_cnB n hts (gws_good hcw) rfl rfl rfl (hSt.2.2.2.2.2 o _ e2 rfl) (hts _ (gin_ok w2)) y2 ⟨hR.1, by show 8 + (my.2.2.1 + 11) + 64 * d ≤ R.locals; omega⟩, hts _ (gin_ok w6), trivial⟩ hpre rfl hlen hL.1 (gst_split st n) hroom hd ⟨hc1, hc2⟩)
    · exact h2.elim
theorem s_callv {idx : Nat} (E : gEv p R s m args c G A o cc nL d cells slots) (hd : decode cc pc = .ok (.invokevirtual idx, 3)) (h : gx o rt post (gCx l G A d) pc L st σ kn kj (.invokevirtual idx)) (Hn : ∀ L2 st2 σ2, kn L2 st2 σ2 → gWx p l e R s m args below meth c cells slots Q G A nL (pc + 3) L2 st2 σ2) : gWx p l e R s m args below meth c cells slots Q G A nL pc L st σ := by
  obtain ⟨hx, hb, hml, hown, hts, hK, hSt, hG, hcat, hR, hc1, hc2⟩ := id E
  have h2 : gcallv (gCx l G A d) o idx st σ (fun r σ2 => kn L r σ2) := h
  clear h
  intro hs hl H locs ls hP hS hL
  unfold gcallv at h2
  split at h2
  · rename_i q kd n my ps hq
    obtain ⟨v, as, hst, h2⟩ := p_v_inv h2
    obtain ⟨f, i, rfl, h2⟩ := p_lR_inv h2
    obtain ⟨hc, h2⟩ := p_if h2
    obtain ⟨e1, e2, e3⟩ := giv_mem hq
    dsimp only at e1
    subst e1
    unfold gchkI at e3
    rw [Bool.and_eq_true, Bool.and_eq_true] at e3
    obtain ⟨⟨w1, w2⟩, w3⟩ := e3
    dsimp only at w1 w2 w3
    have hvt := gvs_take (n := n) hs
    rw [hst] at hvt
    have hM := h2 hG hcat hvt
    have hcw := gin_ok w1
    have hlen0 : (st.take n).reverse.length = n := by
      rw [List.length_reverse, List.length_take]
      omega
    have hkd : 100 ≤ kd := by rw [hc.1]; omega
    split at w3
    · omega
    · omega
    · simp only [Bool.and_eq_true, Bool.or_eq_true, decide_eq_true_eq] at w3
      obtain ⟨⟨⟨⟨⟨⟨⟨w4, w5⟩, w6⟩, w7⟩, w8⟩, w9⟩, w10⟩, w11⟩ := w3
      obtain ⟨y1, y2, y3⟩ := gchkY_ok w7
      have hlen : (as.map (gv G)).length = n - 1 := by
        rw [List.length_map]
        rw [hst, List.length_cons] at hlen0
        omega
      have hf : ¬ f = 52 := by
        intro z
        subst z
        have : kd = 199 := hc.1
        rcases w5 with w5 | w5 <;> omega
      have hroom : 2 * (F0 m pc ls (st.map (gv G))).monitorRoom + (((st.drop n).map (gv G)).map fun v => v.category).sum ≤ 8 := lv_room (by rw [gv_cats hcat]; exact hc.2.2)
      have hrecv : ∃ cellB : Cell, H[G.1 f i]? = some cellB ∧ cellB.vm.isStatics = false ∧ s.vm.findClass my.1.cls = some cellB.cls := by
        by_cases h50 : f = 50
        · subst h50
          have hk : kd = 114 := hc.1
          rw [hk] at w8
          rw [← w8]
          exact vk_recv hSt.2.2.2.1 hvt.1 hS
        · have hk := hc.1
          unfold gfc at hk
          rw [if_neg h50] at hk
          have hf11 : f < 11 := by
            by_cases z : f < 11
            · exact z
            · rw [if_neg z] at hk
              rcases w5 with w5 | w5 <;> omega
          rw [if_pos hf11] at hk
          obtain ⟨C, T, N, ty0, k1, k2, -, -, -, -, -, k8, -⟩ := gclk f hf11
          obtain ⟨k, q1, q2⟩ := gW_at G σ (show f < 39 by omega) hvt.1
          rw [gE_obj k8] at q2
          obtain ⟨cell, z1, z2, z3⟩ := va_recv hK hP k1 q2
          refine ⟨cell, z1, z2, ?_⟩
          have hz : 100 + f - 100 = f := by omega
          rw [hk, hz, ← k2] at w8
          rw [← w8]
          exact z3
      have hsplit : (F0 m pc ls (st.map (gv G))).stack = (as.map (gv G)).reverse ++ .ref (G.1 f i) :: (st.drop n).map (gv G) := by
        show st.map (gv G) = _
        rw [gst_split st n, hst, List.map_cons, List.reverse_cons, gv_ref hf, List.append_assoc]
        rfl
      rw [List.map_cons, gv_ref hf] at hM
      refine g_call (va_runV (C := my.1.cls) (b := G.1 f i) (As := as.map (gv G)) (rest := (st.drop n).map (gv G)) (bytes := my.2.1) (maxL := my.2.2.1) (ret := my.2.2.2) (n := n - 1) ⟨hx, hb, hml, hown, hts⟩ hM ⟨callB_of (n - 1) hts (gws_good hcw) rfl rfl rfl (hts _ (gin_ok w2)) (hts _ (gin_ok w9)) y2 ⟨hR.1, by show 8 + (my.2.2.1 + 11) + 64 * d ≤ R.locals; omega⟩, hts _ (gin_ok w10), hts _ (gin_ok w11)⟩ ⟨gPre.blind G A σ _, hrecv, fun U hU hW => ⟨rfl, by rw [hU]; exact hP, va_K.moved hW.alike hK, by rw [hU]; exact hSt.to hW hS.2.1⟩⟩ rfl hlen hL.1 hsplit hroom hd ⟨hc1, hc2⟩) hS (fun r σ2 H1 locs1 hok hp hP1 hS1 => ?_)
      rw [gmap_toList]
      exact Hn _ _ _ hp (gvs_ret hok (gvs_drop n hs)) hl H1 locs1 ls hP1 hS1 hL
  · exact h2.elim
end SND
