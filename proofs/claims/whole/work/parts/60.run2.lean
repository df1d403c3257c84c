/-! PURE: run -/
theorem drop_at {l : List (Nat × List Nat)} {i : Nat} (h : i < l.length) : l.drop i = l.getD i (0, []) :: l.drop (i + 1) := by
  rw [List.drop_eq_getElem_cons h, List.getD_eq_getElem?_getD, List.getElem?_eq_getElem h]
  rfl
set_option maxHeartbeats 1000000 in
theorem u_run49 {l : List (Nat × List Nat)} {S : gWS} {τ : gT} {k : Int32 → gT → Prop} (hl : l.length ≤ 80) (hok : ∀ a, a ∈ l → aOk a) (hB : gWB S.1 S.2.1) (hS : gW9 S τ) (h5 : τ.1 5 0 2 = nI l.length) (hA : gAc 0 l τ) (h0 : S.2.2 = 0) (h : ∀ τ', (∀ a, a ≠ 23 → a ≠ 24 → τ'.1 a = τ.1 a) → gW9 (aL l S) τ' → k (nI (aL l S).2.2) τ') : ∃ t, wX9_run_49 k t 0 0 τ := by
  have key := gloop (N := l.length) (fun t i => ∀ (S : gWS) (τ : gT), gWB S.1 S.2.1 → gW9 S τ → τ.1 5 0 2 = nI l.length → gAc 0 l τ → (∀ τ', (∀ a, a ≠ 23 → a ≠ 24 → τ'.1 a = τ.1 a) → gW9 (aL (l.drop i) S) τ' → k (nI (aL (l.drop i) S).2.2) τ') → wX9_run_49 k t (nI S.2.2) (nI i) τ) (by
    intro S τ hB hS h5 hA h
    rw [List.drop_length] at h
    unfold wX9_run_49
    rw [h5]
    exact ⟨fun _ => h τ (fun _ _ _ => rfl) hS, fun z => absurd (nI_le (Nat.le_refl _) (by omega)) z⟩) (by
    intro t i hi ih S τ hB hS h5 hA h
    rw [drop_at hi] at h
    obtain ⟨e1, e2⟩ := hA i hi
    rw [Nat.zero_add] at e1 e2
    unfold wX9_run_49 wX9_run_82
    rw [h5, nI_1 i, nI_clamp (show i < 2 ^ 31 by omega), e1, show nI i * (5 : Int32) = nI (i * 5) from pk_mul i 5]
    have hm : l.getD i (0, []) ∈ l := by
      rw [List.getD_eq_getElem?_getD, List.getElem?_eq_getElem hi]
      exact List.getElem_mem hi
    refine ⟨fun z => absurd z (nI_ge hi (by omega)), fun _ => ⟨vp_in_nI (by omega) (by decide), u_perform (ac := l.getD i (0, [])) (S := S) (by omega) (hok _ hm) hB hS e2 (fun d τ' f1 f2 f3 => ?_)⟩⟩
    have nx := ih (aD (l.getD i (0, [])) S) τ' (aU_wb hB) f2 (by rw [f1 5 (by decide) (by decide)]; exact h5) (fun j hj => by rw [f1 19 (by decide) (by decide), f1 20 (by decide) (by decide)]; exact hA j hj) (fun τ2 g1 g2 => h τ2 (fun a a1 a2 => (g1 a a1 a2).trans (f1 a a1 a2)) g2)
    rcases f3 with ⟨rfl, f4⟩ | ⟨rfl, f4⟩
    · rw [f4] at nx
      rw [nI_1]
      exact ⟨fun z => absurd z (by decide), fun _ => nx⟩
    · rw [f4] at nx
      exact ⟨fun _ => nx, fun z => absurd rfl z⟩)
  obtain ⟨t, key⟩ := key
  have key := key S τ hB hS h5 hA h
  rw [h0] at key
  exact ⟨t, key⟩
/-- what the model's run leaves as it was -/
def gFZ (ρ τ : gT) : Prop := (∀ a, a ≠ 10 → a ≠ 31 → a ≠ 32 → τ.1 a = ρ.1 a) ∧ τ.1 10 0 10 = 0 ∧ τ.1 10 0 1 = ρ.1 10 0 1 ∧ τ.1 10 0 11 = ρ.1 10 0 11 ∧ τ.1 10 0 24 = ρ.1 10 0 24
set_option maxHeartbeats 1000000 in
theorem v_run {b : Nat → Nat} {n : Nat} {S : gWS} {ρ : gT} {k : Int32 → gT → Prop} (hn : n ≤ 400) (h10 : ρ.1 10 0 10 = nI n) (hb : ∀ q, q < n → b q < 256 ∧ ρ.1 35 0 q = nI (b q)) (hS : gW10 S ρ) (h0 : S.2.2 = 0) (hf : ∀ f s τ', pAll b n 81 0 = .inl (f, s) → gFZ ρ τ' → τ'.1 31 = ρ.1 31 → τ'.1 32 = ρ.1 32 → k (-1000100 - nI s) (gsu τ' 10 0 11 (nI f))) (ho : ∀ l τ', pAll b n 81 0 = .inr l → gFZ ρ τ' → gW10 (aL l S) τ' → k (nI (aL l S).2.2) τ') : wX10_run ρ k := by
  unfold wX10_run wX10_readAll
  have e12 : (gsu ρ 10 0 0 0).1 10 0 10 = nI n := by rw [gsu_s (by decide)]; exact h10
  rw [e12]
  refine ⟨Or.inl rfl, ?_⟩
  generalize hρ0 : gsu (gsu (gsu (gsu (gsu ρ 10 0 0 0) 10 0 12 (nI n)) 10 0 10 0) 10 0 17 0) 10 0 19 0 = ρ0
  have fz0 : (∀ a, a ≠ 10 → ρ0.1 a = ρ.1 a) ∧ ρ0.1 10 0 10 = 0 ∧ ρ0.1 10 0 1 = ρ.1 10 0 1 ∧ ρ0.1 10 0 11 = ρ.1 10 0 11 ∧ ρ0.1 10 0 24 = ρ.1 10 0 24 ∧ ρ0.1 10 0 12 = nI n ∧ ρ0.1 10 0 17 = 0 ∧ ρ0.1 10 0 19 = 0 := by
    rw [← hρ0]
    refine ⟨fun a ha => by rw [gsu_fam ha, gsu_fam ha, gsu_fam ha, gsu_fam ha, gsu_fam ha], ?_, ?_, ?_, ?_, ?_, ?_, ?_⟩ <;> simp (disch := decide) only [gsu_f, gsu_s, gsu_e, gsl_f, gsl_g, gsl_s, gsl_e, gsu_g]
  obtain ⟨z1, z2, z3, z4, z5, z6, z7, z8⟩ := fz0
  have hC1 : gCm b n (gsu (gsu ρ0 10 0 13 0) 10 0 20 0) := ⟨by rw [gsu_s (by decide), gsu_s (by decide)]; exact z6, hn, fun q hq => ⟨(hb q hq).1, by rw [gsu_f (by decide), gsu_f (by decide), z1 35 (by decide)]; exact (hb q hq).2⟩⟩
  refine v_go (q := 0) hC1 (Nat.zero_le _) (by rw [gsu_s (by decide), gsu_e]; rfl) (by rw [gsu_s (by decide), gsu_s (by decide)]; exact z7) (fun τ1 f1 A1 => ⟨81, ?_⟩)
  have q1 : ∀ τ2, gFP τ1 τ2 → (∀ a, a ≠ 10 → τ2.1 a = ρ.1 a) ∧ τ2.1 10 0 10 = 0 ∧ τ2.1 10 0 1 = ρ.1 10 0 1 ∧ τ2.1 10 0 11 = ρ.1 10 0 11 ∧ τ2.1 10 0 24 = ρ.1 10 0 24 ∧ τ2.1 10 0 12 = nI n := by
    intro τ2 g
    have t := f1.tr g
    refine ⟨fun a ha => ?_, ?_, ?_, ?_, ?_, ?_⟩
    · rw [t.1 a ha, gsu_fam ha, gsu_fam ha]; exact z1 a ha
    · rw [t.2 10 (by decide), gsu_s (by decide), gsu_s (by decide)]; exact z2
    · rw [t.2 1 (by decide), gsu_s (by decide), gsu_s (by decide)]; exact z3
    · rw [t.2 11 (by decide), gsu_s (by decide), gsu_s (by decide)]; exact z4
    · rw [t.2 24 (by decide), gsu_s (by decide), gsu_s (by decide)]; exact z5
    · rw [t.2 12 (by decide), gsu_s (by decide), gsu_s (by decide)]; exact z6
  refine v_pass1 80 0 τ1 (by omega) A1 (by rw [f1.2 19 (by decide), gsu_s (by decide), gsu_s (by decide)]; exact z8) (fun f s τ2 g1 g2 g3 => ?_) (fun l τ2 g1 g2 g3 => ?_)
  · obtain ⟨y1, y2, y3, y4, y5, y6⟩ := q1 τ2 g2
    have h1 := g3.2.1
    have h2 := g3.2.2.1
    refine ⟨fun z => absurd z (by rw [g3.1]; exact nI_nle h1 (by omega)), fun _ => ?_⟩
    rw [g3.1, gsu_s (by decide), g3.2.2.2]
    exact hf f s τ2 g1 ⟨fun a a1 _ _ => y1 a a1, y2, y3, y4, y5⟩ (y1 31 (by decide)) (y1 32 (by decide))
  · obtain ⟨y1, y2, y3, y4, y5, y6⟩ := q1 τ2 g2
    refine ⟨fun _ => ⟨Or.inr rfl, ?_⟩, fun z => absurd (by rw [g3]; decide) z⟩
    have hC2 : gCm b n (gsu (gsu (gsu τ2 10 0 19 1) 10 0 13 0) 10 0 20 0) := ⟨by rw [gsu_s (by decide), gsu_s (by decide), gsu_s (by decide)]; exact y6, hn, fun q hq => ⟨(hb q hq).1, by rw [gsu_f (by decide), gsu_f (by decide), gsu_f (by decide), y1 35 (by decide)]; exact (hb q hq).2⟩⟩
    refine v_go (q := 0) hC2 (Nat.zero_le _) (by rw [gsu_s (by decide), gsu_e]; rfl) (by rw [gsu_s (by decide), gsu_s (by decide), gsu_s (by decide)]; exact g3) (fun τ3 f3 A3 => ⟨81, ?_⟩)
    refine v_pass2 80 0 S τ3 l (by omega) A3 ?_ (fun w q hw hq => ?_) ?_ g1 (fun τ4 j1 j2 j3 => ?_)
    · rw [f3.2 19 (by decide), gsu_s (by decide), gsu_s (by decide), gsu_e]; decide
    · rw [f3.1 31 (by decide), f3.1 32 (by decide), gsu_fam (by decide), gsu_fam (by decide), gsu_fam (by decide), gsu_fam (by decide), gsu_fam (by decide), gsu_fam (by decide), y1 31 (by decide), y1 32 (by decide)]
      exact hS w q hw hq
    · rw [f3.2 20 (by decide), gsu_e, h0]; rfl
    · rw [j3]
      refine ho l τ4 g1 ⟨fun a a1 a2 a3 => ?_, ?_, ?_, ?_, ?_⟩ j2
      · rw [j1.1 a a1 a2 a3, f3.1 a a1, gsu_fam a1, gsu_fam a1, gsu_fam a1]; exact y1 a a1
      · rw [j1.2 10 (by decide), f3.2 10 (by decide), gsu_s (by decide), gsu_s (by decide), gsu_s (by decide)]; exact y2
      · rw [j1.2 1 (by decide), f3.2 1 (by decide), gsu_s (by decide), gsu_s (by decide), gsu_s (by decide)]; exact y3
      · rw [j1.2 11 (by decide), f3.2 11 (by decide), gsu_s (by decide), gsu_s (by decide), gsu_s (by decide)]; exact y4
      · rw [j1.2 24 (by decide), f3.2 24 (by decide), gsu_s (by decide), gsu_s (by decide), gsu_s (by decide)]; exact y5
set_option maxHeartbeats 1000000 in
theorem J_run {σ : gT} (h : gR σ) : wX9_run σ (fun r s1 => wX10_run s1 (fun r2 s2 => r = r2 ∧ gR s2)) := by
  obtain ⟨n, hn, a1, a2, a3⟩ := h.2.2.2.1
  have hb : ∀ q, q < n → (σ.1 35 0 q).toNatClampNeg < 256 ∧ σ.1 22 0 q = (nI (σ.1 35 0 q).toNatClampNeg).toInt8.toInt32 ∧ σ.1 35 0 q = nI (σ.1 35 0 q).toNatClampNeg := by
    intro q hq
    obtain ⟨c, c1, c2, c3⟩ := a3 q hq
    rw [c3, nI_clamp (by omega)]
    exact ⟨c1, c2, rfl⟩
  generalize eb : (fun q => (σ.1 35 0 q).toNatClampNeg) = b
  have hb : ∀ q, q < n → b q < 256 ∧ σ.1 22 0 q = (nI (b q)).toInt8.toInt32 ∧ σ.1 35 0 q = nI (b q) := by rw [← eb]; exact hb
  have hC : gCb b n σ := ⟨a1, hn, fun q hq => ⟨(hb q hq).1, (hb q hq).2.1⟩⟩
  unfold wX9_run wX7_empty
  -- the rest of the relation, from what stays as it was
  have fin : ∀ τ : gT, (∀ a, a ≠ 5 → a ≠ 7 → a ≠ 9 → a ≠ 10 → a ≠ 19 → a ≠ 20 → a ≠ 22 → a ≠ 23 → a ≠ 24 → a ≠ 31 → a ≠ 32 → a ≠ 35 → τ.1 a = σ.1 a) → τ.1 7 0 1 = 0 → τ.1 10 0 10 = 0 → τ.1 10 0 24 = σ.1 10 0 24 → gRw τ → gRf τ → gRz τ → gR τ := by
    intro τ e t1 t2 t3 rw_ rf_ rz_
    refine ⟨(gRs_cong (fun a b c ha => by rw [e a (by omega) (by omega) (by omega) (by omega) (by omega) (by omega) (by omega) (by omega) (by omega) (by omega) (by omega) (by omega)])).mpr h.1, rw_, (gRp_cong (fun a b c ha => by rw [e a (by omega) (by omega) (by omega) (by omega) (by omega) (by omega) (by omega) (by omega) (by omega) (by omega) (by omega) (by omega)])).mpr h.2.2.1, ⟨0, by decide, t1, t2, fun q hq => absurd hq (Nat.not_lt_zero q)⟩, ?_, rf_, rz_⟩
    unfold gRa
    rw [t3, e 0 (by decide) (by decide) (by decide) (by decide) (by decide) (by decide) (by decide) (by decide) (by decide) (by decide) (by decide) (by decide), e 38 (by decide) (by decide) (by decide) (by decide) (by decide) (by decide) (by decide) (by decide) (by decide) (by decide) (by decide) (by decide), e 11 (by decide) (by decide) (by decide) (by decide) (by decide) (by decide) (by decide) (by decide) (by decide) (by decide) (by decide) (by decide)]
    exact h.2.2.2.2.1
  have hS9 : gW9 (fun w q => σ.1 23 w q, fun w q => σ.1 24 w q, 0) σ := fun w q _ _ => ⟨rfl, rfl⟩
  have hS10 : gW10 (fun w q => σ.1 23 w q, fun w q => σ.1 24 w q, 0) σ := fun w q hw hq => ⟨(h.2.1 w hw q hq).1, (h.2.1 w hw q hq).2.1⟩
  have hB : gWB (fun w q => σ.1 23 w q) (fun w q => σ.1 24 w q) := fun w q hw hq => (h.2.1 w hw q hq).2.2
  refine u_readAll hC (fun f s τ g1 g2 g3 g4 => ⟨fun z => absurd rfl z, fun _ => ?_⟩) (fun l τ g1 g2 g3 g4 g5 => ⟨fun _ => ?_, fun z => absurd z (by decide)⟩)
  · have e5 : (gsu τ 7 0 1 0).1 5 0 3 = nI f := by rw [gsu_f (by decide)]; exact g3
    rw [e5]
    have e6 : (gsu (gsu τ 7 0 1 0) 9 0 9 (nI f)).1 5 0 4 = nI s := by rw [gsu_f (by decide), gsu_f (by decide)]; exact g4
    rw [e6]
    have fr : ∀ a, a ≠ 5 → a ≠ 7 → a ≠ 9 → a ≠ 19 → a ≠ 20 → (gsu (gsu τ 7 0 1 0) 9 0 9 (nI f)).1 a = σ.1 a := fun a a1 a2 a3 a4 a5 => by rw [gsu_fam a3, gsu_fam a2]; exact g2.1 a a1 a2 a4 a5
    have f10 := fr 10 (by decide) (by decide) (by decide) (by decide) (by decide)
    have f31 := fr 31 (by decide) (by decide) (by decide) (by decide) (by decide)
    have f32 := fr 32 (by decide) (by decide) (by decide) (by decide) (by decide)
    have f35 := fr 35 (by decide) (by decide) (by decide) (by decide) (by decide)
    refine v_run (b := b) (n := n) (S := (fun w q => σ.1 23 w q, fun w q => σ.1 24 w q, 0)) hn (by rw [f10]; exact a2) (fun q hq => ⟨(hb q hq).1, by rw [f35]; exact (hb q hq).2.2⟩) (fun w q hw hq => by rw [f31, f32]; exact hS10 w q hw hq) rfl (fun f2 s2 τ2 k1 k2 k3 k4 => ?_) (fun l τ2 k1 => ?_)
    · obtain ⟨k6, k5⟩ := Prod.mk.inj (Sum.inl.inj (g1.symm.trans k1))
      subst k6 k5
      refine ⟨rfl, fin _ (fun a b1 b2 b3 b4 b5 b6 b7 b8 b9 b10 b11 b12 => ?_) ?_ ?_ ?_ ?_ ?_ ?_⟩
      · rw [gsu_fam b4, k2.1 a b4 b10 b11]; exact fr a b1 b2 b3 b5 b6
      · rw [gsu_f (by decide), k2.1 7 (by decide) (by decide) (by decide), gsu_f (by decide), gsu_e]
      · rw [gsu_s (by decide)]; exact k2.2.1
      · rw [gsu_s (by decide), k2.2.2.2.2, f10]
      · refine (gRw_cong (fun a b c ha => ?_)).mpr h.2.1
        rw [gsu_f (by omega)]
        rcases ha with rfl | rfl | rfl | rfl
        · rw [k2.1 23 (by decide) (by decide) (by decide), fr 23 (by decide) (by decide) (by decide) (by decide) (by decide)]
        · rw [k2.1 24 (by decide) (by decide) (by decide), fr 24 (by decide) (by decide) (by decide) (by decide) (by decide)]
        · rw [k3, f31]
        · rw [k4, f32]
      · unfold gRf
        rw [gsu_e, gsu_f (by decide), k2.1 9 (by decide) (by decide) (by decide), gsu_e]
      · unfold gRz
        rw [gsu_s (by decide), k2.2.2.1, f10, gsu_f (by decide), k2.1 9 (by decide) (by decide) (by decide), gsu_s (by decide), gsu_f (by decide), g2.1 9 (by decide) (by decide) (by decide) (by decide)]
        exact h.2.2.2.2.2.2
    · rw [g1] at k1; cases k1
  · have fr0 : ∀ a, a ≠ 5 → a ≠ 7 → a ≠ 19 → a ≠ 20 → (gsu τ 7 0 1 0).1 a = σ.1 a := fun a a1 a2 a3 a4 => by rw [gsu_fam a2]; exact g2.1 a a1 a2 a3 a4
    refine u_run49 (S := (fun w q => σ.1 23 w q, fun w q => σ.1 24 w q, 0)) g4 (pAll_ok 81 0 l (Nat.zero_le _) g1) hB (fun w q hw hq => by rw [fr0 23 (by decide) (by decide) (by decide) (by decide), fr0 24 (by decide) (by decide) (by decide) (by decide)]; exact hS9 w q hw hq) (by rw [gsu_f (by decide)]; exact g3) (fun i hi => by rw [gsu_fam (by decide), gsu_fam (by decide)]; exact g5 i hi) rfl (fun τ2 k1 k2 => ?_)
    have fr : ∀ a, a ≠ 5 → a ≠ 7 → a ≠ 19 → a ≠ 20 → a ≠ 23 → a ≠ 24 → τ2.1 a = σ.1 a := fun a a1 a2 a3 a4 a5 a6 => (k1 a a5 a6).trans (fr0 a a1 a2 a3 a4)
    have f10 := fr 10 (by decide) (by decide) (by decide) (by decide) (by decide) (by decide)
    have f31 := fr 31 (by decide) (by decide) (by decide) (by decide) (by decide) (by decide)
    have f32 := fr 32 (by decide) (by decide) (by decide) (by decide) (by decide) (by decide)
    have f35 := fr 35 (by decide) (by decide) (by decide) (by decide) (by decide) (by decide)
    refine v_run (b := b) (n := n) (S := (fun w q => σ.1 23 w q, fun w q => σ.1 24 w q, 0)) hn (by rw [f10]; exact a2) (fun q hq => ⟨(hb q hq).1, by rw [f35]; exact (hb q hq).2.2⟩) (fun w q hw hq => by rw [f31, f32]; exact hS10 w q hw hq) rfl (fun f2 s2 τ3 j1 => ?_) (fun l3 τ3 j1 j2 j3 => ?_)
    · rw [g1] at j1; cases j1
    · have j9 := Sum.inr.inj (g1.symm.trans j1)
      subst j9
      refine ⟨rfl, fin _ (fun a b1 b2 b3 b4 b5 b6 b7 b8 b9 b10 b11 b12 => ?_) ?_ ?_ ?_ (fun w hw q hq => ?_) ?_ ?_⟩
      · rw [j2.1 a b4 b10 b11]; exact fr a b1 b2 b5 b6 b8 b9
      · rw [j2.1 7 (by decide) (by decide) (by decide), k1 7 (by decide) (by decide), gsu_e]
      · exact j2.2.1
      · rw [j2.2.2.2.2, f10]
      · have wb := aL_wb l (S := (fun w q => σ.1 23 w q, fun w q => σ.1 24 w q, 0)) hB w q hw hq
        rw [(j3 w q hw hq).1, (j3 w q hw hq).2, j2.1 23 (by decide) (by decide) (by decide), j2.1 24 (by decide) (by decide) (by decide), (k2 w q hw hq).1, (k2 w q hw hq).2]
        exact ⟨rfl, rfl, wb.1, wb.2⟩
      · unfold gRf
        rw [j2.2.2.2.1, f10, j2.1 9 (by decide) (by decide) (by decide), fr 9 (by decide) (by decide) (by decide) (by decide) (by decide) (by decide)]
        exact h.2.2.2.2.2.1
      · unfold gRz
        rw [j2.2.2.1, f10, j2.1 9 (by decide) (by decide) (by decide), fr 9 (by decide) (by decide) (by decide) (by decide) (by decide) (by decide)]
        exact h.2.2.2.2.2.2
