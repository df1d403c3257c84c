/-! SOUNDNESS, fields, rows, statics, calls -/
theorem gE_congr {G : gG} {σ σ' : gT} {f i : Nat} (h1 : ∀ c, σ'.1 f i c = σ.1 f i c) (h2 : ∀ c, σ'.2 f i c = σ.2 f i c) : gE G σ' f i = gE G σ f i := by
  have e1 : σ'.1 f i = σ.1 f i := funext h1
  have e2 : σ'.2 f i = σ.2 f i := funext h2
  unfold gE
  split
  · have : (fun j => gfv G σ' f i j ((gF f).getD j 0)) = fun j => gfv G σ f i j ((gF f).getD j 0) := by
      funext j
      unfold gfv
      rw [e1]
    rw [this]
  · rw [e1, e2]
theorem gsu_ne {σ : gT} {f i j : Nat} {x : Int32} {a b c : Nat} (h : (a, b) ≠ (f, i)) : (gsu σ f i j x).1 a b c = σ.1 a b c := by
  unfold gsu
  dsimp only
  rw [if_neg]
  rintro ⟨rfl, rfl, -⟩
  exact h rfl
theorem gsu_eq {σ : gT} {f i j : Nat} {x : Int32} : (gsu σ f i j x).1 f i = upd (σ.1 f i) j x := by
  funext c
  unfold gsu upd
  dsimp only
  by_cases h : c = j
  · rw [if_pos ⟨rfl, rfl, h⟩, if_pos h]
  · rw [if_neg (fun z => h z.2.2), if_neg h]
theorem gsl_ne {σ : gT} {f i j : Nat} {x : Int64} {a b c : Nat} (h : (a, b) ≠ (f, i)) : (gsl σ f i j x).2 a b c = σ.2 a b c := by
  unfold gsl
  dsimp only
  rw [if_neg]
  rintro ⟨rfl, rfl, -⟩
  exact h rfl
theorem gsl_eq {σ : gT} {f i j : Nat} {x : Int64} : (gsl σ f i j x).2 f i = vp_updL (σ.2 f i) j x := by
  funext c
  unfold gsl vp_updL
  dsimp only
  by_cases h : c = j
  · rw [if_pos ⟨rfl, rfl, h⟩, if_pos h]
  · rw [if_neg (fun z => h z.2.2), if_neg h]
theorem gsc_ne {σ : gT} {f i sp g k dp n : Nat} {a b c : Nat} (h : (a, b) ≠ (g, k)) : (gsc σ f i sp g k dp n).1 a b c = σ.1 a b c := by
  unfold gsc
  dsimp only
  rw [if_neg]
  rintro ⟨rfl, rfl, -⟩
  exact h rfl
theorem gsc_eq {σ : gT} {f i sp g k dp n : Nat} : (gsc σ f i sp g k dp n).1 g k = va_cpy (σ.1 f i) (σ.1 g k) sp dp n := by
  funext c
  unfold gsc va_cpy
  dsimp only
  by_cases h : dp ≤ c ∧ c < dp + n
  · rw [if_pos ⟨rfl, rfl, h⟩, if_pos h]
  · rw [if_neg (fun z => h z.2.2), if_neg h]
theorem gF_ok : ∀ ci, ci < 11 → ∀ k ∈ gF ci, 2 ≤ k → ¬ k - 2 = 52 ∧ gN ci ≤ gN (k - 2) := by decide +kernel
theorem gA_lt {f : Nat} {q : Nat × Nat × Nat} (h : gA f = some q) : f < 39 := by
  rcases Nat.lt_or_ge f 39 with z | z
  · exact z
  · obtain ⟨n, rfl⟩ : ∃ n, f = n + 39 := ⟨f - 39, by omega⟩
    cases h
theorem gA_ok : ∀ f, f < 39 → ∀ kd n g, gA f = some (kd, n, g) → kd < 6 ∧ n < 2 ^ 31 ∧ (3 ≤ kd → ¬ g = 52 ∧ n ≤ gN g) := by
  have h : ∀ f, f < 39 → ∀ q ∈ (gA f).toList, q.1 < 6 ∧ q.2.1 < 2 ^ 31 ∧ (3 ≤ q.1 → ¬ q.2.2 = 52 ∧ q.2.1 ≤ gN q.2.2) := by decide +kernel
  intro f hf kd n g hg
  exact h f hf (kd, n, g) (by rw [hg]; exact List.mem_singleton.mpr rfl)
theorem gSV_ok (f : Nat) : gSV f = [] ∨ ∃ e ∈ gSL, e.2.2.1 = f := by
  rcases Nat.lt_or_ge f 40 with z | z
  · left
    have h : ∀ f, f < 40 → gSV f = [] := by decide +kernel
    exact h f z
  · rcases Nat.lt_or_ge f 47 with y | y
    · right
      have h : ∀ f, f < 47 → 40 ≤ f → ∃ e ∈ gSL, e.2.2.1 = f := by decide +kernel
      exact h f y z
    · left
      obtain ⟨n, rfl⟩ : ∃ n, f = n + 47 := ⟨f - 47, by omega⟩
      rfl
theorem gTy_at (G : gG) : (gTy G)[0]? = some (G.2.1 0, .int) ∧ (gTy G)[1]? = some (G.2.1 1, .byte) ∧ (gTy G)[2]? = some (G.2.1 2, .long) := ⟨rfl, rfl, rfl⟩
theorem gTy_ref (G : gG) {kd : Nat} (h : kd < 3) : ∃ C, (gTy G)[kd + 3]? = some (G.2.1 (kd + 3), .object C) := match kd, h with
  | 0, _ => ⟨_, rfl⟩
  | 1, _ => ⟨_, rfl⟩
  | 2, _ => ⟨_, rfl⟩
  | n + 3, h => absurd h (by omega)
theorem gTy_any (G : gG) {kd : Nat} (h : kd < 6) : ∃ ty, (gTy G)[kd]? = some (G.2.1 kd, ty) := match kd, h with
  | 0, _ => ⟨_, rfl⟩
  | 1, _ => ⟨_, rfl⟩
  | 2, _ => ⟨_, rfl⟩
  | 3, _ => ⟨_, rfl⟩
  | 4, _ => ⟨_, rfl⟩
  | 5, _ => ⟨_, rfl⟩
  | n + 6, h => absurd h (by omega)
theorem gE_obj {G : gG} {σ : gT} {f i : Nat} (h : gA f = none) : gE G σ f i = .inr (f, (List.range (gF f).length).map (fun j => gfv G σ f i j ((gF f).getD j 0))) := by
  unfold gE
  rw [h]
theorem gfs_at {G : gG} {σ : gT} {f i j : Nat} (h : j < (gF f).length) : ((List.range (gF f).length).map (fun j => gfv G σ f i j ((gF f).getD j 0)))[j]? = some (gfv G σ f i j ((gF f).getD j 0)) := by
  rw [List.getElem?_map, List.getElem?_range h]
  rfl
section SND
variable {p : Program} {l : Launch} {e : Env} {R : Room} {s : State} {m : MethodId} {args : Array Value} {below : List Frame} {meth : Method} {c : Code} {cells slots : Nat} {Q : State → Prop} {G : gG} {A : Nat → Prop} {nL o d : Nat} {cc : ByteArray} {rt : Option FieldType} {post : Option gAV → gT → Prop} {pc : Nat} {L : gLo} {st : gSk} {σ : gT} {kn : gLo → gSk → gT → Prop} {kj : gK}
theorem s_getfield {idx : Nat} (E : gEv p R s m args c G A o cc nL d cells slots) (hd : decode cc pc = .ok (.getfield idx, 3)) (h : gx o rt post (gCx l G A d) pc L st σ kn kj (.getfield idx)) (Hn : ∀ L2 st2 σ2, kn L2 st2 σ2 → gWx p l e R s m args below meth c cells slots Q G A nL (pc + 3) L2 st2 σ2) : gWx p l e R s m args below meth c cells slots Q G A nL pc L st σ := by
  obtain ⟨hx, hb, hml, hown, hts, hK, hSt, hG, hcat, hR, hc1, hc2⟩ := id E
  have hz := p_r_inv h
  clear h
  obtain ⟨f, i, r, rfl, h⟩ := hz
  intro hs hl H locs ls hP hS hL
  unfold ggf at h
  split at h
  · rename_i q ci j p0 hq
    obtain ⟨e1, e2⟩ := gfl_mem hq
    dsimp only at e1
    subst e1
    obtain ⟨rfl, h⟩ := p_if h
    unfold gchkF at e2
    dsimp only at e2
    split at e2
    · rename_i Q0 hQ
      rw [Bool.and_eq_true, Bool.and_eq_true] at e2
      obtain ⟨⟨e3, e4⟩, e5⟩ := e2
      have e3 := of_decide_eq_true e3
      have e4 := of_decide_eq_true e4
      obtain ⟨C, T, N, ty0, hk⟩ := gclk f e4
      have hk' := hk
      obtain ⟨k1, k2, k3, k4, k5, k6, k7, k8, k9⟩ := hk'
      rw [k1] at hQ
      cases hQ
      dsimp only at e3 e5
      obtain ⟨k, q1, q2⟩ := gW_at G σ (show f < 39 by omega) hs.1
      rw [gE_obj k8] at q2
      have hjl : j < (gF f).length := by rw [k6]; exact e3
      have hgd : (gF f)[j]? = some ((gF f).getD j 0) := by
        rw [List.getD_eq_getElem?_getD, List.getElem?_eq_getElem hjl]
        rfl
      rw [List.map_cons, gv_ref (by omega)]
      refine va_get (D := G.2.2.1) (ci := f) (C := C) (T := T) (N := N) hx hb hts k3 hown hK hP k q2 k1 j e3 (hts _ (gin_ok e5)) (fun _ h9 => h9) (gfs_at hjl) hd ?_
      rw [hgd] at h
      split at h
      · rename_i h0
        rw [Option.some.inj h0]
        exact Hn _ _ _ h ⟨trivial, hs.2⟩ hl H locs ls hP hS hL
      · rename_i h0
        rw [Option.some.inj h0]
        exact Hn _ _ _ h ⟨trivial, hs.2⟩ hl H locs ls hP hS hL
      · rename_i g h0
        have h0 := Option.some.inj h0
        have hF := gF_ok f e4 _ (List.mem_of_getElem? hgd) (by omega)
        rw [h0] at hF
        have hg : g + 2 - 2 = g := by omega
        rw [hg] at hF
        have hk := Hn _ _ _ h ⟨Nat.lt_of_lt_of_le hs.1 hF.2, hs.2⟩ hl H locs ls hP hS hL
        rw [List.map_cons, gv_ref hF.1] at hk
        rw [h0]
        exact hk
      · exact h.elim
    · cases e2
  · split at h
    · have hz := p_if h
      clear h
      obtain ⟨hf50, h⟩ := hz
      subst hf50
      have hi : i < 7 := hs.1
      have hg := gstr_ok
      rw [Bool.and_eq_true, Bool.and_eq_true, Bool.and_eq_true] at hg
      rw [List.map_cons, gv_ref (by decide)]
      by_cases c1 : idx = gX_value
      · rw [if_pos c1] at h
        subst c1
        have hk := Hn _ _ _ h ⟨hi, hs.2⟩ hl H locs ls hP hS hL
        rw [List.map_cons, gv_ref (by decide)] at hk
        exact vk_getf hx hb (hSt.2.2.2.1.1 i hi).2.2.1 hS hown (hts _ (gin_ok hg.1.1.1)) (fun _ h9 => h9) hd hk
      · rw [if_neg c1] at h
        have hz := p_if h
        clear h
        obtain ⟨hfc, h⟩ := hz
        subst hfc
        exact vk_getf hx hb (hSt.2.2.2.1.1 i hi).2.1 hS hown (hts _ (gin_ok hg.1.1.2)) (fun _ h9 => h9) hd (Hn _ _ _ h ⟨trivial, hs.2⟩ hl H locs ls hP hS hL)
    · exact h.elim
theorem s_putfield {idx : Nat} (E : gEv p R s m args c G A o cc nL d cells slots) (hd : decode cc pc = .ok (.putfield idx, 3)) (h : gx o rt post (gCx l G A d) pc L st σ kn kj (.putfield idx)) (Hn : ∀ L2 st2 σ2, kn L2 st2 σ2 → gWx p l e R s m args below meth c cells slots Q G A nL (pc + 3) L2 st2 σ2) : gWx p l e R s m args below meth c cells slots Q G A nL pc L st σ := by
  obtain ⟨hx, hb, hml, hown, hts, hK, hSt, hG, hcat, hR, hc1, hc2⟩ := id E
  have hz := p_v_inv h
  clear h
  obtain ⟨v, r, rfl, h⟩ := hz
  have hz := p_lI_inv h
  clear h
  obtain ⟨x, rfl, h⟩ := hz
  have hz := p_r_inv h
  clear h
  obtain ⟨f, i, r, rfl, h⟩ := hz
  intro hs hl H locs ls hP hS hL
  unfold gpf at h
  split at h
  · rename_i q ci j p0 hq
    obtain ⟨e1, e2⟩ := gfl_mem hq
    dsimp only at e1
    subst e1
    obtain ⟨rfl, h⟩ := p_if h
    unfold gchkF at e2
    dsimp only at e2
    split at e2
    · rename_i Q0 hQ
      rw [Bool.and_eq_true, Bool.and_eq_true] at e2
      obtain ⟨⟨e3, e4⟩, e5⟩ := e2
      have e3 := of_decide_eq_true e3
      have e4 := of_decide_eq_true e4
      obtain ⟨C, T, N, ty0, hk⟩ := gclk f e4
      have hk' := hk
      obtain ⟨k1, k2, k3, k4, k5, k6, k7, k8, k9⟩ := hk'
      rw [k1] at hQ
      cases hQ
      dsimp only at e3 e5
      obtain ⟨k, q1, q2⟩ := gW_at G σ (show f < 39 by omega) hs.2.1
      rw [gE_obj k8] at q2
      have hjl : j < (gF f).length := by rw [k6]; exact e3
      have hgd : (gF f)[j]? = some ((gF f).getD j 0) := by
        rw [List.getD_eq_getElem?_getD, List.getElem?_eq_getElem hjl]
        rfl
      split at h
      · rename_i hfin
        have hfin : (T j).2.2.2 = false := by
          rw [← (k9 j e3).2.2, List.getD_eq_getElem?_getD, hfin]
          rfl
        rw [List.map_cons, List.map_cons, gv_ref (by omega)]
        rw [hgd] at h
        have key : ∀ (hkd : (gF f).getD j 0 = 0 ∨ (gF f).getD j 0 = 1) (hn : narrow (ty0 j) (.int x) = .int x) (hft : fits (ty0 j) (.int x) = true) (hk : kn L r (gsu σ f i j x)), W p l e R s m args below meth c H locs cells slots Q (F0 m pc ls (.int x :: .ref (G.1 f i) :: r.map (gv G))) := by
          intro hkd hn hft hk
          refine va_put (D := G.2.2.1) (ci := f) (ty := ty0 j) (C := C) (T := T) (N := N) hx hb hts k3 ty0 k4 k5 hown hK hP (gW_D hG σ) hS k q2 k1 j e3 (hts _ (gin_ok e5)) (fun _ h9 => h9) hfin (k4 j e3) hn hft (by rw [List.length_map, List.length_range]; exact hjl) hd (fun H1 locs1 hP1 hD1 hS1 => ?_)
          refine Hn _ _ _ hk hs.2.2 hl H1 locs1 ls (gW_set hG q1 ?_ (fun q hq => gE_congr (fun c => gsu_ne hq) (fun c => rfl)) hP1) hS1 hL
          rw [gE_obj k8]
          refine congrArg (fun z => Sum.inr (f, z)) (List.ext_getElem? fun n => ?_)
          rw [List.getElem?_set]
          by_cases hn : j = n
          · subst hn
            rw [if_pos rfl, if_pos (by rw [List.length_map, List.length_range]; exact hjl), gfs_at hjl]
            refine congrArg some ?_
            rcases hkd with z | z <;> rw [z] <;> show Value.int ((gsu σ f i j x).1 f i j) = .int x <;> rw [gsu_eq] <;> unfold upd <;> rw [if_pos rfl]
          · rw [if_neg hn, List.getElem?_map, List.getElem?_map]
            by_cases hl2 : n < (gF f).length
            · rw [List.getElem?_range hl2]
              refine congrArg some ?_
              show gfv G (gsu σ f i j x) f i n _ = gfv G σ f i n _
              unfold gfv
              rw [gsu_eq]
              unfold upd
              rw [if_neg (Ne.symm hn)]
            · rw [List.getElem?_eq_none (by rw [List.length_range]; omega)]
              rfl
        split at h
        · rename_i h0
          have h0 := Option.some.inj h0
          have ht := (k9 j e3).1 h0
          exact key (Or.inl h0) (by rw [ht]; rfl) (by rw [ht]; rfl) h
        · rename_i h0
          have h0 := Option.some.inj h0
          have ht := (k9 j e3).2.1 h0
          refine key (Or.inr h0) ?_ ?_ h.2
          · rw [ht]; rcases h.1 with rfl | rfl <;> rfl
          · rw [ht]; rcases h.1 with rfl | rfl <;> rfl
        · exact h.elim
      · exact h.elim
    · cases e2
  · exact h.elim
theorem s_iaload (E : gEv p R s m args c G A o cc nL d cells slots) (hd : decode cc pc = .ok (.iaload, 1)) (h : gx o rt post (gCx l G A d) pc L st σ kn kj (.iaload)) (Hn : ∀ L2 st2 σ2, kn L2 st2 σ2 → gWx p l e R s m args below meth c cells slots Q G A nL (pc + 1) L2 st2 σ2) : gWx p l e R s m args below meth c cells slots Q G A nL pc L st σ := by
  obtain ⟨hx, hb, hml, hown, hts, hK, hSt, hG, hcat, hR, hc1, hc2⟩ := id E
  have hz := p_ri_inv h
  clear h
  obtain ⟨f, i, j, r, rfl, h⟩ := hz
  intro hs hl H locs ls hP hS hL
  unfold gai at h
  split at h
  · rename_i kd n g hA
    have hz := p_if h
    clear h
    obtain ⟨hkd, hin, h⟩ := hz
    subst hkd
    obtain ⟨k, q1, q2⟩ := gW_at G σ (gA_lt hA) hs.2.1
    unfold gE at q2
    rw [hA] at q2
    have hf : ¬ f = 52 := by have := gA_lt hA; omega
    rw [List.map_cons, List.map_cons, gv_ref hf]
    exact va_iald hx hb hK hP k 0 q2 (gTy_at G).1 hin hd (Hn _ _ _ h ⟨trivial, hs.2.2⟩ hl H locs ls hP hS hL)
  · rename_i hA
    rw [if_pos rfl] at h
    obtain ⟨hin, h⟩ := h
    rcases gSV_ok f with hz | ⟨e0, he1, he2⟩
    · rw [hz] at hin
      exact absurd (Or.inr (Nat.zero_le _)) hin
    · subst he2
      have hb40 := List.all_eq_true.mp gSL_ok _ he1
      rw [Bool.and_eq_true] at hb40
      have hb41 := of_decide_eq_true hb40.2
      have hi : i = 0 := by
        have h1 : ∀ f, f < 47 → 40 ≤ f → gN f = 1 := by decide +kernel
        have h2 : i < gN e0.2.2.1 := hs.2.1
        rw [h1 _ hb41.2 hb41.1] at h2
        omega
      subst hi
      rw [List.map_cons, List.map_cons, gv_ref (by omega)]
      exact va_ti hx hb (hSt.1 e0 he1).2 hS hin rfl hd (Hn _ _ _ h ⟨trivial, hs.2.2⟩ hl H locs ls hP hS hL)
theorem s_baload (E : gEv p R s m args c G A o cc nL d cells slots) (hd : decode cc pc = .ok (.baload, 1)) (h : gx o rt post (gCx l G A d) pc L st σ kn kj (.baload)) (Hn : ∀ L2 st2 σ2, kn L2 st2 σ2 → gWx p l e R s m args below meth c cells slots Q G A nL (pc + 1) L2 st2 σ2) : gWx p l e R s m args below meth c cells slots Q G A nL pc L st σ := by
  obtain ⟨hx, hb, hml, hown, hts, hK, hSt, hG, hcat, hR, hc1, hc2⟩ := id E
  have hz := p_ri_inv h
  clear h
  obtain ⟨f, i, j, r, rfl, h⟩ := hz
  intro hs hl H locs ls hP hS hL
  unfold gai at h
  split at h
  · rename_i kd n g hA
    have hz := p_if h
    clear h
    obtain ⟨hkd, hin, h⟩ := hz
    subst hkd
    obtain ⟨k, q1, q2⟩ := gW_at G σ (gA_lt hA) hs.2.1
    unfold gE at q2
    rw [hA] at q2
    have hf : ¬ f = 52 := by have := gA_lt hA; omega
    rw [List.map_cons, List.map_cons, gv_ref hf]
    exact va_bald hx hb hK hP k 1 q2 (gTy_at G).2.1 hin hd (Hn _ _ _ h ⟨trivial, hs.2.2⟩ hl H locs ls hP hS hL)
  · rename_i hA
    rw [if_neg (by decide)] at h
    have hz := p_if h
    clear h
    obtain ⟨hf, hin, h⟩ := hz
    subst hf
    have hi : i < 7 := hs.2.1
    rw [List.map_cons, List.map_cons, gv_ref (by decide)]
    exact va_tb hx hb (hSt.2.2.2.1.1 i hi).2.2.2 hS hin rfl hd (Hn _ _ _ h ⟨trivial, hs.2.2⟩ hl H locs ls hP hS hL)
theorem s_laload (E : gEv p R s m args c G A o cc nL d cells slots) (hd : decode cc pc = .ok (.laload, 1)) (h : gx o rt post (gCx l G A d) pc L st σ kn kj (.laload)) (Hn : ∀ L2 st2 σ2, kn L2 st2 σ2 → gWx p l e R s m args below meth c cells slots Q G A nL (pc + 1) L2 st2 σ2) : gWx p l e R s m args below meth c cells slots Q G A nL pc L st σ := by
  obtain ⟨hx, hb, hml, hown, hts, hK, hSt, hG, hcat, hR, hc1, hc2⟩ := id E
  have hz := p_ri_inv h
  clear h
  obtain ⟨f, i, j, r, rfl, h⟩ := hz
  intro hs hl H locs ls hP hS hL
  unfold gal at h
  split at h
  · rename_i n g hA
    obtain ⟨hin, h⟩ := h
    obtain ⟨k, q1, q2⟩ := gW_at G σ (gA_lt hA) hs.2.1
    unfold gE at q2
    rw [hA] at q2
    have hf : ¬ f = 52 := by have := gA_lt hA; omega
    rw [List.map_cons, List.map_cons, gv_ref hf]
    exact va_lald hx hb hK hP k 2 q2 (gTy_at G).2.2 hin hd (Hn _ _ _ h ⟨trivial, hs.2.2⟩ hl H locs ls hP hS hL)
  · exact h.elim
theorem s_aaload (E : gEv p R s m args c G A o cc nL d cells slots) (hd : decode cc pc = .ok (.aaload, 1)) (h : gx o rt post (gCx l G A d) pc L st σ kn kj (.aaload)) (Hn : ∀ L2 st2 σ2, kn L2 st2 σ2 → gWx p l e R s m args below meth c cells slots Q G A nL (pc + 1) L2 st2 σ2) : gWx p l e R s m args below meth c cells slots Q G A nL pc L st σ := by
  obtain ⟨hx, hb, hml, hown, hts, hK, hSt, hG, hcat, hR, hc1, hc2⟩ := id E
  have hz := p_ri_inv h
  clear h
  obtain ⟨f, i, j, r, rfl, h⟩ := hz
  intro hs hl H locs ls hP hS hL
  unfold gar at h
  split at h
  · rename_i kd n g hA
    obtain ⟨hin, h⟩ := h
    obtain ⟨k, q1, q2⟩ := gW_at G σ (gA_lt hA) hs.2.1
    unfold gE at q2
    rw [hA] at q2
    have hf : ¬ f = 52 := by have := gA_lt hA; omega
    obtain ⟨a1, a2, a3⟩ := gA_ok f (gA_lt hA) _ _ _ hA
    obtain ⟨a4, a5⟩ := a3 (by omega)
    obtain ⟨C, hC⟩ := gTy_ref G (kd := kd) (by omega)
    have hlt : j.toNatClampNeg < n := Nat.not_le.mp fun q => hin (Or.inr q)
    have hk := Hn _ _ _ h ⟨Nat.lt_of_lt_of_le hlt a5, hs.2.2⟩ hl H locs ls hP hS hL
    rw [List.map_cons, gv_ref a4] at hk
    rw [List.map_cons, List.map_cons, gv_ref hf]
    exact va_aldq hx hb hK hP k (kd + 3) q2 hC hin hd hk
  · exact h.elim
theorem s_iastore (E : gEv p R s m args c G A o cc nL d cells slots) (hd : decode cc pc = .ok (.iastore, 1)) (h : gx o rt post (gCx l G A d) pc L st σ kn kj (.iastore)) (Hn : ∀ L2 st2 σ2, kn L2 st2 σ2 → gWx p l e R s m args below meth c cells slots Q G A nL (pc + 1) L2 st2 σ2) : gWx p l e R s m args below meth c cells slots Q G A nL pc L st σ := by
  obtain ⟨hx, hb, hml, hown, hts, hK, hSt, hG, hcat, hR, hc1, hc2⟩ := id E
  have hz := p_rii_inv h
  clear h
  obtain ⟨f, i, j, x, r, rfl, h⟩ := hz
  intro hs hl H locs ls hP hS hL
  unfold gasi at h
  split at h
  · rename_i n g hA
    obtain ⟨hin, h⟩ := h
    obtain ⟨k, q1, q2⟩ := gW_at G σ (gA_lt hA) hs.2.2.1
    unfold gE at q2
    rw [hA] at q2
    have hf : ¬ f = 52 := by have := gA_lt hA; omega
    rw [List.map_cons, List.map_cons, List.map_cons, gv_ref hf]
    refine va_iast hx hb hK hP (gW_D hG σ) hS k 0 q2 (gTy_at G).1 hin hd (fun H1 locs1 hP1 hD1 hS1 => ?_)
    refine Hn _ _ _ h hs.2.2.2 hl H1 locs1 ls (gW_set (σ := σ) (σ' := gsu σ f i j.toNatClampNeg x) hG q1 ?_ (fun q hq => gE_congr (fun c => gsu_ne hq) (fun c => rfl)) hP1) hS1 hL
    unfold gE
    rw [hA, gsu_eq]
    rfl
  · exact h.elim
theorem s_bastore (E : gEv p R s m args c G A o cc nL d cells slots) (hd : decode cc pc = .ok (.bastore, 1)) (h : gx o rt post (gCx l G A d) pc L st σ kn kj (.bastore)) (Hn : ∀ L2 st2 σ2, kn L2 st2 σ2 → gWx p l e R s m args below meth c cells slots Q G A nL (pc + 1) L2 st2 σ2) : gWx p l e R s m args below meth c cells slots Q G A nL pc L st σ := by
  obtain ⟨hx, hb, hml, hown, hts, hK, hSt, hG, hcat, hR, hc1, hc2⟩ := id E
  have hz := p_rii_inv h
  clear h
  obtain ⟨f, i, j, x, r, rfl, h⟩ := hz
  intro hs hl H locs ls hP hS hL
  unfold gasb at h
  split at h
  · rename_i n g hA
    obtain ⟨hin, h⟩ := h
    obtain ⟨k, q1, q2⟩ := gW_at G σ (gA_lt hA) hs.2.2.1
    unfold gE at q2
    rw [hA] at q2
    have hf : ¬ f = 52 := by have := gA_lt hA; omega
    rw [List.map_cons, List.map_cons, List.map_cons, gv_ref hf]
    refine va_bast hx hb hK hP (gW_D hG σ) hS k 1 q2 (gTy_at G).2.1 hin hd (fun H1 locs1 hP1 hD1 hS1 => ?_)
    refine Hn _ _ _ h hs.2.2.2 hl H1 locs1 ls (gW_set (σ := σ) (σ' := gsu σ f i j.toNatClampNeg (vp_nar .byte x)) hG q1 ?_ (fun q hq => gE_congr (fun c => gsu_ne hq) (fun c => rfl)) hP1) hS1 hL
    unfold gE
    rw [hA, gsu_eq]
    rfl
  · exact h.elim
theorem s_lastore (E : gEv p R s m args c G A o cc nL d cells slots) (hd : decode cc pc = .ok (.lastore, 1)) (h : gx o rt post (gCx l G A d) pc L st σ kn kj (.lastore)) (Hn : ∀ L2 st2 σ2, kn L2 st2 σ2 → gWx p l e R s m args below meth c cells slots Q G A nL (pc + 1) L2 st2 σ2) : gWx p l e R s m args below meth c cells slots Q G A nL pc L st σ := by
  obtain ⟨hx, hb, hml, hown, hts, hK, hSt, hG, hcat, hR, hc1, hc2⟩ := id E
  have hz := p_ril_inv h
  clear h
  obtain ⟨f, i, j, x, r, rfl, h⟩ := hz
  intro hs hl H locs ls hP hS hL
  unfold gasl at h
  split at h
  · rename_i n g hA
    obtain ⟨hin, h⟩ := h
    obtain ⟨k, q1, q2⟩ := gW_at G σ (gA_lt hA) hs.2.2.1
    unfold gE at q2
    rw [hA] at q2
    have hf : ¬ f = 52 := by have := gA_lt hA; omega
    rw [List.map_cons, List.map_cons, List.map_cons, gv_ref hf]
    refine va_last hx hb hK hP (gW_D hG σ) hS k 2 q2 (gTy_at G).2.2 hin hd (fun H1 locs1 hP1 hD1 hS1 => ?_)
    refine Hn _ _ _ h hs.2.2.2 hl H1 locs1 ls (gW_set (σ := σ) (σ' := gsl σ f i j.toNatClampNeg x) hG q1 ?_ (fun q hq => gE_congr (fun c => rfl) (fun c => gsl_ne hq)) hP1) hS1 hL
    unfold gE
    rw [hA, gsl_eq]
    rfl
  · exact h.elim
theorem s_arraylength (E : gEv p R s m args c G A o cc nL d cells slots) (hd : decode cc pc = .ok (.arraylength, 1)) (h : gx o rt post (gCx l G A d) pc L st σ kn kj (.arraylength)) (Hn : ∀ L2 st2 σ2, kn L2 st2 σ2 → gWx p l e R s m args below meth c cells slots Q G A nL (pc + 1) L2 st2 σ2) : gWx p l e R s m args below meth c cells slots Q G A nL pc L st σ := by
  obtain ⟨hx, hb, hml, hown, hts, hK, hSt, hG, hcat, hR, hc1, hc2⟩ := id E
  have hz := p_r_inv h
  clear h
  obtain ⟨f, i, r, rfl, h⟩ := hz
  intro hs hl H locs ls hP hS hL
  unfold gan at h
  split at h
  · rename_i kd n g hA
    obtain ⟨k, q1, q2⟩ := gW_at G σ (gA_lt hA) hs.1
    unfold gE at q2
    rw [hA] at q2
    have hf : ¬ f = 52 := by have := gA_lt hA; omega
    obtain ⟨a1, a2, a3⟩ := gA_ok f (gA_lt hA) _ _ _ hA
    obtain ⟨ty, hty⟩ := gTy_any G a1
    rw [List.map_cons, gv_ref hf]
    exact va_alen hx hb hK hP k kd q2 hty rfl hd (Hn _ _ _ h ⟨trivial, hs.2⟩ hl H locs ls hP hS hL)
  · by_cases c1 : f = 51
    · rw [if_pos c1] at h
      subst c1
      have hi : i < 7 := hs.1
      rw [List.map_cons, gv_ref (by decide)]
      exact va_tlen hx hb (hSt.2.2.2.1.1 i hi).2.2.2 hS rfl hd (Hn _ _ _ h ⟨trivial, hs.2⟩ hl H locs ls hP hS hL)
    · rw [if_neg c1] at h
      split at h
      · exact h.elim
      · rename_i a0 r0 hsv
        rcases gSV_ok f with hz | ⟨e0, he1, he2⟩
        · rw [hz] at hsv
          cases hsv
        · subst he2
          have hb40 := List.all_eq_true.mp gSL_ok _ he1
          rw [Bool.and_eq_true] at hb40
          have hb41 := of_decide_eq_true hb40.2
          have hi : i = 0 := by
            have h1 : ∀ f, f < 47 → 40 ≤ f → gN f = 1 := by decide +kernel
            have h2 : i < gN e0.2.2.1 := hs.1
            rw [h1 _ hb41.2 hb41.1] at h2
            omega
          subst hi
          rw [List.map_cons, gv_ref (by omega)]
          exact va_tlen hx hb (hSt.1 e0 he1).2 hS (by rw [hsv]) hd (Hn _ _ _ h ⟨trivial, hs.2⟩ hl H locs ls hP hS hL)
theorem s_getstatic {idx : Nat} (E : gEv p R s m args c G A o cc nL d cells slots) (hd : decode cc pc = .ok (.getstatic idx, 3)) (h : gx o rt post (gCx l G A d) pc L st σ kn kj (.getstatic idx)) (Hn : ∀ L2 st2 σ2, kn L2 st2 σ2 → gWx p l e R s m args below meth c cells slots Q G A nL (pc + 3) L2 st2 σ2) : gWx p l e R s m args below meth c cells slots Q G A nL pc L st σ := by
  obtain ⟨hx, hb, hml, hown, hts, hK, hSt, hG, hcat, hR, hc1, hc2⟩ := id E
  intro hs hl H locs ls hP hS hL
  replace h : ggs o idx (fun v => kn L (v :: st) σ) := h
  unfold ggs at h
  split at h
  · rename_i q1 q2 f p0 hq
    obtain ⟨e1, e2, e3⟩ := gss_mem hq
    dsimp only at e1 e2
    subst e1; subst e2
    have hb40 := List.all_eq_true.mp gSL_ok _ e3
    rw [Bool.and_eq_true] at hb40
    have hb41 : 40 ≤ f ∧ f < 47 := of_decide_eq_true hb40.2
    have h1 : ∀ f, f < 47 → 40 ≤ f → gN f = 1 := by decide +kernel
    have hk := Hn _ _ _ h ⟨(by show 0 < gN f; rw [h1 f hb41.2 hb41.1]; decide), hs⟩ hl H locs ls hP hS hL
    rw [List.map_cons, gv_ref (by omega)] at hk
    exact va_gets hx hb (hSt.1 _ e3).1 hS hown (hts _ (gin_ok hb40.1)) (fun _ h9 => h9) hd hk
  · have hg := gstr_ok
    rw [Bool.and_eq_true, Bool.and_eq_true, Bool.and_eq_true] at hg
    by_cases c1 : o = 14 ∧ idx = gX_COMPACT_STRINGS
    · rw [if_pos c1] at h
      obtain ⟨rfl, rfl⟩ := c1
      exact va_gets hx hb hSt.2.1 hS hown (hts _ (gin_ok hg.1.2)) (fun _ h9 => h9) hd (Hn _ _ _ h ⟨trivial, hs⟩ hl H locs ls hP hS hL)
    · rw [if_neg c1] at h
      have hz := p_if h
      clear h
      obtain ⟨c2, h⟩ := hz
      obtain ⟨rfl, rfl⟩ := c2
      exact va_gets hx hb hSt.2.2.1 hS hown (hts _ (gin_ok hg.2)) (fun _ h9 => h9) hd (Hn _ _ _ h ⟨(show 0 < gN 52 by decide), hs⟩ hl H locs ls hP hS hL)
end SND
