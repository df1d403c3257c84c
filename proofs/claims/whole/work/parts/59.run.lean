/-! PURE: the model's acts read and done; run -/
theorem wY_lt {b : Nat → Nat} {n s : Nat} : wY b n s < 2 ^ 60 := by
  unfold wY
  by_cases c : kS b n s = 1 ∧ eS b n s - s < 8
  · rw [if_pos c]
    have hl := kS_letters c.1
    have := wv_lt (b := b) (s := s) (m := eS b n s - s) (fun x hx => by have := hl (s + x) (by omega) (by omega); omega)
    have hp : 256 ^ (eS b n s - s) ≤ 256 ^ 7 := Nat.pow_le_pow_right (by decide) (by omega)
    omega
  · rw [if_neg c]; decide
theorem getD_nI (vs : List Nat) (i : Nat) : (vs.map nI).getD i 0 = nI (vs.getD i 0) := by
  rw [List.getD_eq_getElem?_getD, List.getD_eq_getElem?_getD, List.getElem?_map]
  cases vs[i]? with
  | none => rfl
  | some x => rfl
theorem getD_out {vs : List Nat} {i : Nat} (h : vs.length ≤ i) : vs.getD i 0 = 0 := by
  rw [List.getD_eq_getElem?_getD, List.getElem?_eq_none h]
  rfl
theorem v_194 {b : Nat → Nat} {n q : Nat} {y : Int64} {x3 x4 x5 x6 x7 : Int32} {τ : gT} {k : gT → Prop} (hA : gMA b n q τ) (ho : kS b n (tS b n q) = 3 → ∀ τ', gFP τ τ' → gMA b n (eS b n (tS b n q)) τ' → wX10_readAct_218 k y x3 x4 x5 x6 x7 τ') (hf : ¬ kS b n (tS b n q) = 3 → ∀ τ', gFP τ τ' → gMF 1 (tS b n q) τ' → k τ') : wX10_readAct_194 k y x3 x4 x5 x6 x7 τ := by
  have m4 : τ.1 10 0 14 = 4 ↔ kS b n (tS b n q) = 3 := by rw [hA.2.2.2.2.2.1]; exact mK_num (i := 3) (j := 4) (by decide) (by decide)
  unfold wX10_readAct_194 wX10_readAct_215
  rw [m4]
  exact ⟨fun z => absurd hA.2.2.2.2.2.2 z, fun _ => ⟨fun c => v_must_n hA (fun τ' f1 F1 => f_218 F1 (hf c τ' f1 F1)), fun c => v_must_y (by decide) hA (ho c)⟩⟩
set_option maxHeartbeats 1000000 in
theorem v_readAct {b : Nat → Nat} {n p : Nat} {τ : gT} {k : gT → Prop} (hA : gMA b n p τ) (hf : ∀ f s τ', pAc b n p = .inl (f, s) → gFP τ τ' → gMF f s τ' → k τ') (ho : ∀ v vs q τ', pAc b n p = .inr (v, vs, q) → gFP τ τ' → gMA b n q τ' → wX10_readAct_218 k (lN (ww v)) (nI (vs.getD 0 0)) (nI (vs.getD 1 0)) (nI (vs.getD 2 0)) (nI (aS (v, vs))) (nI (aT (v, vs))) τ') : wX10_readAct τ k := by
  obtain ⟨hC, hp, h15, h13, h16, h14, h17⟩ := id hA
  have tb := tS_bd (b := b) hp
  have eb := eS_bd (b := b) tb.2
  have hv := vb_le (b := b) (n := n) (s := tS b n p)
  have hlt := wY_lt (b := b) (n := n) (s := tS b n p)
  unfold wX10_readAct wX10_readAct_62
  refine v_word hC tb.2 h15 h16 h14 ?_
  have ci : ∀ i, i < 7 → (lg_cmp (lN (wY b n (tS b n p))) (lN (ww i)) = 0 ↔ vb b n (tS b n p) = i) := fun i hi => by
    have := (ww_ok ⟨i, hi⟩).2.2
    dsimp only at this
    rw [cmp_eq0, pk_lEQ (by omega) (by omega), vb_iff hi]
  rw [show (482905517684 : Int64) = lN (ww 0) from rfl, show (482854661733 : Int64) = lN (ww 1) from rfl, show (6580589 : Int64) = lN (ww 2) from rfl, show (1953854062 : Int64) = lN (ww 3) from rfl, show (6382692 : Int64) = lN (ww 4) from rfl, show (7823737 : Int64) = lN (ww 5) from rfl, show (2003398757 : Int64) = lN (ww 6) from rfl, ci 0 (by decide), ci 1 (by decide), ci 2 (by decide), ci 3 (by decide), ci 4 (by decide), ci 5 (by decide), ci 6 (by decide)]
  simp only [pAc_eq, paS_N] at hf ho
  by_cases c : vb b n (tS b n p) = 7
  · simp only [if_pos c] at hf
    have hbad := v_67_n (y := lN (wY b n (tS b n p))) (k := k) hA (fun τ' f1 F1 => hf 1 _ τ' rfl f1 F1)
    refine ⟨fun z => ?_, fun _ => ⟨fun z => ?_, fun _ => ⟨fun z => ?_, fun _ => ⟨fun z => ?_, fun _ => ⟨fun z => ?_, fun _ => ⟨fun z => ?_, fun _ => ⟨fun _ => hbad, fun z => ?_⟩⟩⟩⟩⟩⟩⟩ <;> omega
  · simp only [if_neg c] at hf ho
    have hy : wY b n (tS b n p) = ww (vb b n (tS b n p)) := (vb_iff (by omega)).mpr rfl
    rw [hy]
    have mM : ∀ v : Fin 7, ∀ M ∈ mo v, M ≤ 1000 := by decide
    have mN : ∀ (v : Nat) (vs : List Nat) (q : Nat), paN b n (mo v) (eS b n (tS b n p)) = .inr (vs, q) → vs.length = (mo v).length := by
      intro v vs q
      generalize eS b n (tS b n p) = p1
      generalize mo v = ms
      induction ms generalizing vs p1 with
      | nil =>
        intro h
        injection h with h
        injection h with h1 h2
        rw [← h1]
      | cons M ms ih =>
        intro h
        rw [paN_cons] at h
        by_cases d1 : kS b n (tS b n p1) = 2
        · rw [if_pos d1] at h
          by_cases d2 : vl b n p1 ≤ M
          · rw [if_pos d2] at h
            cases hr : paN b n ms (eS b n (tS b n p1)) with
            | inl f => rw [hr] at h; cases h
            | inr r =>
              rw [hr] at h
              injection h with h
              injection h with h1 h2
              obtain ⟨r1, r2⟩ := r
              dsimp only at h1 h2
              subst h1 h2
              rw [List.length_cons, List.length_cons, ih _ _ hr]
          · rw [if_neg d2] at h; cases h
        · rw [if_neg d1] at h; cases h
    generalize vb b n (tS b n p) = v at *
    -- what a chain leads to
    have key : ∀ (K : List Int32 → gT → Prop), (∀ f s l τ', gMF f s τ' → k τ' → K l τ') → (∀ vs q τ', vs.length = (mo v).length → gMA b n q τ' → (kS b n (tS b n q) = 3 → ∀ τ2, gFP τ' τ2 → gMA b n (eS b n (tS b n q)) τ2 → wX10_readAct_218 k (lN (ww v)) (nI (vs.getD 0 0)) (nI (vs.getD 1 0)) (nI (vs.getD 2 0)) (nI (aS (v, vs))) (nI (aT (v, vs))) τ2) → (¬ kS b n (tS b n q) = 3 → ∀ τ2, gFP τ' τ2 → gMF 1 (tS b n q) τ2 → k τ2) → K (vs.map nI) τ') → wX10_must 1 τ (fun s => ch K (mo v) s) := by
      intro K kf kk
      refine v_must_y (by decide) hA (fun τ1 f1 A1 => v_ch (mo v) K _ τ1 (mM ⟨v, by omega⟩) A1 (fun vs q τ' g1 g2 g3 => ?_) (fun f s l τ' g1 g2 g3 => ?_))
      · rw [g1] at hf ho
        dsimp only at hf ho
        refine kk vs q τ' (mN v vs q g1) g3 (fun c3 τ2 k1 k2 => ?_) (fun c3 τ2 k1 k2 => ?_)
        · simp only [if_pos c3] at ho
          exact ho v vs _ τ2 rfl ((f1.tr g2).tr k1) k2
        · simp only [if_neg c3] at hf
          exact hf 1 _ τ2 rfl ((f1.tr g2).tr k1) k2
      · rw [g1] at hf
        exact kf f s l τ' g3 (hf f s τ' rfl (f1.tr g2) g3)
    rcases (show v = 0 ∨ v = 1 ∨ v = 2 ∨ v = 3 ∨ v = 4 ∨ v = 5 ∨ v = 6 by omega) with rfl | rfl | rfl | rfl | rfl | rfl | rfl
    · have H : wX10_readAct_67 k (lN (ww 0)) 1 τ := v_67_0 (key _ (fun f s l τ' F1 hk => f_194 F1 hk) (fun vs q τ' hl A1 a1 a2 => by
        rw [getD_nI, getD_nI, getD_nI, getD_nI, getD_nI]
        exact v_194 A1 a1 a2))
      exact ⟨fun _ => H, fun z => absurd rfl z⟩
    · have H : wX10_readAct_67 k (lN (ww 1)) 1 τ := v_67_1 (key _ (fun f s l τ' F1 hk => f_194 F1 hk) (fun vs q τ' hl A1 a1 a2 => by
        rw [getD_nI, getD_nI, getD_nI, getD_nI, getD_nI]
        exact v_194 A1 a1 a2))
      exact ⟨fun _ => H, fun _ => ⟨fun _ => H, fun z => absurd rfl z⟩⟩
    · have H : wX10_readAct_67 k (lN (ww 2)) 1 τ := v_67_2 (key _ (fun f s l τ' F1 hk => f_194 F1 hk) (fun vs q τ' hl A1 a1 a2 => by
        rw [getD_nI, getD_nI, getD_nI]
        exact v_194 A1 a1 a2))
      exact ⟨fun _ => H, fun _ => ⟨fun _ => H, fun _ => ⟨fun _ => H, fun z => absurd rfl z⟩⟩⟩
    · have H : wX10_readAct_67 k (lN (ww 3)) 1 τ := v_67_3 (key _ (fun f s l τ' F1 hk => f_194 F1 hk) (fun vs q τ' hl A1 a1 a2 => by
        rw [getD_nI, getD_nI, getD_nI, getD_nI]
        exact v_194 A1 a1 a2))
      exact ⟨fun _ => H, fun _ => ⟨fun _ => H, fun _ => ⟨fun _ => H, fun _ => ⟨fun _ => H, fun z => absurd rfl z⟩⟩⟩⟩
    · have H : wX10_readAct_67 k (lN (ww 4)) 1 τ := v_67_4 (key _ (fun f s l τ' F1 hk => f_194 F1 hk) (fun vs q τ' hl A1 a1 a2 => by
        have l2 : vs.length = 2 := hl
        rw [getD_out (vs := vs) (i := 2) (by omega)] at a1
        rw [getD_nI, getD_nI]
        exact v_194 A1 a1 a2))
      exact ⟨fun _ => H, fun _ => ⟨fun _ => H, fun _ => ⟨fun _ => H, fun _ => ⟨fun _ => H, fun _ => ⟨fun _ => H, fun z => absurd rfl z⟩⟩⟩⟩⟩
    · have H : wX10_readAct_67 k (lN (ww 5)) 1 τ := v_67_5 (key _ (fun f s l τ' F1 hk => f_194 F1 hk) (fun vs q τ' hl A1 a1 a2 => by
        have l2 : vs.length = 1 := hl
        rw [getD_out (vs := vs) (i := 2) (by omega), getD_out (vs := vs) (i := 1) (by omega)] at a1
        rw [getD_nI]
        exact v_194 A1 a1 a2))
      exact ⟨fun _ => H, fun _ => ⟨fun _ => H, fun _ => ⟨fun _ => H, fun _ => ⟨fun _ => H, fun _ => ⟨fun _ => H, fun _ => ⟨fun _ => H, fun z => absurd rfl z⟩⟩⟩⟩⟩⟩
    · have H : wX10_readAct_67 k (lN (ww 6)) 1 τ := v_67_6 (key _ (fun f s l τ' F1 hk => f_194 F1 hk) (fun vs q τ' hl A1 a1 a2 => by
        have l2 : vs.length = 1 := hl
        rw [getD_out (vs := vs) (i := 2) (by omega), getD_out (vs := vs) (i := 1) (by omega)] at a1
        rw [getD_nI]
        exact v_194 A1 a1 a2))
      exact ⟨fun _ => H, fun _ => ⟨fun _ => H, fun _ => ⟨fun _ => H, fun _ => ⟨fun _ => H, fun _ => ⟨fun _ => H, fun _ => ⟨fun _ => H, fun _ => ⟨fun z => absurd rfl z, fun _ => H⟩⟩⟩⟩⟩⟩⟩
theorem gMA_k0 {b : Nat → Nat} {n p : Nat} {τ : gT} (hA : gMA b n p τ) : τ.1 10 0 14 = 1 ↔ kS b n (tS b n p) = 0 := by rw [hA.2.2.2.2.2.1]; exact mK_num (i := 0) (j := 1) (by decide) (by decide)
set_option maxHeartbeats 1000000 in
/-- the first reading: nothing is done -/
theorem v_pass1 {b : Nat → Nat} {n : Nat} {k : gT → Prop} : ∀ (m p : Nat) (τ : gT), n ≤ p + 5 * m → gMA b n p τ → τ.1 10 0 19 = 0 → (∀ f s τ', pAll b n (m + 1) p = .inl (f, s) → gFP τ τ' → gMF f s τ' → k τ') → (∀ l τ', pAll b n (m + 1) p = .inr l → gFP τ τ' → τ'.1 10 0 17 = 0 → k τ') → wX10_readAll_14 k (m + 1) τ := by
  intro m
  induction m with
  | zero =>
    intro p τ hnp hA h19 hf ho
    have tb := tS_bd (b := b) hA.2.1
    have hz : kS b n (tS b n p) = 0 := if_pos (by omega)
    simp only [pAll_s, if_pos hz] at ho
    unfold wX10_readAll_14
    exact ⟨fun z => absurd hA.2.2.2.2.2.2 z, fun _ => ⟨fun _ => ho [] τ rfl gFP.rf hA.2.2.2.2.2.2, fun z => absurd ((gMA_k0 hA).mpr hz) z⟩⟩
  | succ m ih =>
    intro p τ hnp hA h19 hf ho
    rw [pAll_s] at hf ho
    unfold wX10_readAll_14
    refine ⟨fun z => absurd hA.2.2.2.2.2.2 z, fun _ => ⟨fun c => ?_, fun c => ?_⟩⟩
    · simp only [if_pos ((gMA_k0 hA).mp c)] at ho
      exact ho [] τ rfl gFP.rf hA.2.2.2.2.2.2
    · have c0 : ¬ kS b n (tS b n p) = 0 := fun z => c ((gMA_k0 hA).mpr z)
      simp only [if_neg c0] at hf ho
      refine v_readAct hA (fun f s τ' g1 g2 g3 => ?_) (fun v vs q τ' g1 g2 g3 => ?_)
      · rw [g1] at hf
        unfold wX10_readAll_14
        exact ⟨fun _ => hf f s τ' rfl g2 g3, fun z => absurd z g3.nz⟩
      · rw [g1] at hf ho
        dsimp only at hf ho
        obtain ⟨p1, p2, p3, p4, p5⟩ := pAc_ok hA.2.1 g1
        have e19 : τ'.1 10 0 19 = 0 := (g2.2 19 (by decide)).trans h19
        unfold wX10_readAct_218
        refine ⟨fun z => absurd g3.2.2.2.2.2.2 z, fun _ => ⟨fun _ => ?_, fun z => absurd e19 z⟩⟩
        refine ih q τ' (by omega) g3 e19 (fun f s τ2 k1 k2 k3 => ?_) (fun l τ2 k1 k2 k3 => ?_)
        · rw [k1] at hf
          exact hf f s τ2 rfl (g2.tr k2) k3
        · rw [k1] at ho
          exact ho _ τ2 rfl (g2.tr k2) k3
noncomputable def aL : List (Nat × List Nat) → gWS → gWS
  | [], S => S
  | a :: l, S => aL l (aD a S)
/-- what the second reading may change -/
def gFQ (σ τ : gT) : Prop := (∀ a, a ≠ 10 → a ≠ 31 → a ≠ 32 → τ.1 a = σ.1 a) ∧ ∀ c, (c < 13 ∨ 20 < c) → τ.1 10 0 c = σ.1 10 0 c
theorem gFQ.tr {σ τ ρ : gT} (h : gFQ σ τ) (g : gFQ τ ρ) : gFQ σ ρ := ⟨fun a a1 a2 a3 => (g.1 a a1 a2 a3).trans (h.1 a a1 a2 a3), fun c hc => (g.2 c hc).trans (h.2 c hc)⟩
theorem gFQ.of {σ τ : gT} (h : gFP σ τ) : gFQ σ τ := ⟨fun a a1 _ _ => h.1 a a1, fun c hc => h.2 c (by omega)⟩
set_option maxHeartbeats 1000000 in
theorem v_pass2 {b : Nat → Nat} {n : Nat} {k : gT → Prop} : ∀ (m p : Nat) (S : gWS) (τ : gT) (l : List (Nat × List Nat)), n ≤ p + 5 * m → gMA b n p τ → ¬ τ.1 10 0 19 = 0 → gW10 S τ → τ.1 10 0 20 = nI S.2.2 → pAll b n (m + 1) p = .inr l → (∀ τ', gFQ τ τ' → gW10 (aL l S) τ' → τ'.1 10 0 20 = nI (aL l S).2.2 → k τ') → wX10_readAll_14 k (m + 1) τ := by
  intro m
  induction m with
  | zero =>
    intro p S τ l hnp hA h19 hW h20 hl ho
    have tb := tS_bd (b := b) hA.2.1
    have hz : kS b n (tS b n p) = 0 := if_pos (by omega)
    rw [pAll_s, if_pos hz] at hl
    injection hl with hl
    subst hl
    unfold wX10_readAll_14
    exact ⟨fun z => absurd hA.2.2.2.2.2.2 z, fun _ => ⟨fun _ => ho τ (gFQ.of gFP.rf) hW h20, fun z => absurd ((gMA_k0 hA).mpr hz) z⟩⟩
  | succ m ih =>
    intro p S τ l hnp hA h19 hW h20 hl ho
    rw [pAll_s] at hl
    unfold wX10_readAll_14
    refine ⟨fun z => absurd hA.2.2.2.2.2.2 z, fun _ => ⟨fun c => ?_, fun c => ?_⟩⟩
    · rw [if_pos ((gMA_k0 hA).mp c)] at hl
      injection hl with hl
      subst hl
      exact ho τ (gFQ.of gFP.rf) hW h20
    · have c0 : ¬ kS b n (tS b n p) = 0 := fun z => c ((gMA_k0 hA).mpr z)
      rw [if_neg c0] at hl
      refine v_readAct hA (fun f s τ' g1 g2 g3 => ?_) (fun v vs q τ' g1 g2 g3 => ?_)
      · rw [g1] at hl; cases hl
      · rw [g1] at hl
        dsimp only at hl
        obtain ⟨p1, p2, p3, p4, p5⟩ := pAc_ok hA.2.1 g1
        obtain ⟨q1, q2, q3, q4⟩ := paS_ok _ _ _ _ (eS_bd (b := b) (tS_bd (b := b) hA.2.1).2).2.1 p5
        cases hr : pAll b n (m + 1) q with
        | inl f => rw [hr] at hl; cases hl
        | inr l2 =>
          rw [hr] at hl
          injection hl with hl
          subst hl
          have e19 : ¬ τ'.1 10 0 19 = 0 := by rw [g2.2 19 (by decide)]; exact h19
          have e20 : τ'.1 10 0 20 = nI S.2.2 := (g2.2 20 (by decide)).trans h20
          have eW : gW10 S τ' := fun w q hw hq => by rw [g2.1 31 (by decide), g2.1 32 (by decide)]; exact hW w q hw hq
          unfold wX10_readAct_218
          refine ⟨fun z => absurd g3.2.2.2.2.2.2 z, fun _ => ⟨fun z => absurd z e19, fun _ => ?_⟩⟩
          refine v_act (ac := (v, vs)) ⟨p2, q3, q4⟩ eW e20 (fun τ2 k1 k2 k3 k4 => ?_)
          have fq : gFQ τ' τ2 := ⟨k1, fun c hc => k2 c (by omega)⟩
          obtain ⟨A1, A2, A3, A4, A5, A6, A7⟩ := g3
          refine ih q (aD (v, vs) S) τ2 l2 (by omega) ⟨⟨(k2 12 (by decide)).trans A1.1, A1.2.1, fun j hj => ⟨(A1.2.2 j hj).1, by rw [k1 35 (by decide) (by decide) (by decide)]; exact (A1.2.2 j hj).2⟩⟩, A2, (k2 15 (by decide)).trans A3, (k2 13 (by decide)).trans A4, (k2 16 (by decide)).trans A5, (k2 14 (by decide)).trans A6, (k2 17 (by decide)).trans A7⟩ (by rw [k2 19 (by decide)]; exact e19) k3 k4 hr (fun τ3 j1 j2 j3 => ho τ3 (((gFQ.of g2).tr fq).tr j1) j2 j3)
theorem aL_wb : ∀ (l : List (Nat × List Nat)) {S : gWS}, gWB S.1 S.2.1 → gWB (aL l S).1 (aL l S).2.1
  | [], _, h => h
  | a :: l, _, h => aL_wb l (aU_wb h)
set_option maxHeartbeats 1000000 in
theorem pAll_ok {b : Nat → Nat} {n : Nat} : ∀ (m p : Nat) (l : List (Nat × List Nat)), p ≤ n → pAll b n m p = .inr l → ∀ a, a ∈ l → aOk a
  | 0, p, l, _, h => by
    injection h with h
    subst h
    intro a ha
    exact absurd ha List.not_mem_nil
  | m + 1, p, l, hp, h => by
    rw [pAll_s] at h
    by_cases c : kS b n (tS b n p) = 0
    · rw [if_pos c] at h
      injection h with h
      subst h
      intro a ha
      exact absurd ha List.not_mem_nil
    · rw [if_neg c] at h
      cases hr : pAc b n p with
      | inl f => rw [hr] at h; cases h
      | inr r =>
        obtain ⟨v, vs, q⟩ := r
        rw [hr] at h
        dsimp only at h
        obtain ⟨p1, p2, p3, p4, p5⟩ := pAc_ok hp hr
        obtain ⟨q1, q2, q3, q4⟩ := paS_ok _ _ _ _ (eS_bd (b := b) (tS_bd (b := b) hp).2).2.1 p5
        cases hr2 : pAll b n m q with
        | inl f => rw [hr2] at h; cases h
        | inr l2 =>
          rw [hr2] at h
          injection h with h
          subst h
          intro a ha
          rcases List.mem_cons.mp ha with rfl | ha
          · exact ⟨p2, q3, q4⟩
          · exact pAll_ok m q l2 p3 hr2 a ha
