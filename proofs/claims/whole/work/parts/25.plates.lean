/-! PURE: plates, the small ones -/
theorem step_0 {σ : gT} (h : gRp σ) {p : Nat} (hp : p < 6) : σ.1 36 0 p = σ.1 3 p 2 := (h p hp).1
set_option maxHeartbeats 1000000 in
theorem J_lose (x1 x2 : Int32) {σ : gT} (h : gR σ) : wX9_lose x1 x2 σ (fun r s1 => wX10_lose x1 x2 s1 (fun r2 s2 => r = r2 ∧ gR s2)) := by
  unfold wX9_lose wX10_lose wX9_fine wX9_found
  rcases ixc 6 (by decide) (x := x1) with c | ⟨w, hw, rfl⟩
  · simp only [u_isPlate_out c, v_isPlate_out c, if0, if0n, if1, if1n, true_implies, not_true_eq_false, not_false_eq_true, false_implies, and_true, true_and, implies_true]
    exact gR_thrown h
  have ew : (nI w).toNatClampNeg = w := nI_clamp (by omega)
  have vw : vp_in (nI w) 6 := vp_in_nI hw (by decide)
  simp only [u_isPlate_in hw, v_isPlate_in hw, if0, if0n, if1, if1n, true_implies, not_true_eq_false, not_false_eq_true, false_implies, and_true, true_and, implies_true, ew]
  rcases ixc 16 (by decide) (x := x2) with c | ⟨j, hj, rfl⟩
  · simp only [u_below_out (b := 16) c, v_isPlace_out c, if0, if0n, if1, if1n, true_implies, not_true_eq_false, not_false_eq_true, false_implies, and_true, true_and, implies_true]
    exact gR_thrown h
  have hb : ∀ (σ : gT) (k : Int32 → gT → Prop), wX9_below (nI j) (16 : Int32) σ k ↔ k 1 σ := fun σ k => u_below_in (N := 16) hj (by decide)
  have ej : (nI j).toNatClampNeg = j := nI_clamp (by omega)
  have vj : vp_in (nI j) 16 := vp_in_nI hj (by decide)
  have eo : (nI (16 * w + j)).toNatClampNeg = 16 * w + j := nI_clamp (by omega)
  have vo : vp_in (nI (16 * w + j)) 96 := vp_in_nI (by omega) (by decide)
  simp only [hb, v_isPlace_in hj, if0, if0n, if1, if1n, true_implies, not_true_eq_false, not_false_eq_true, false_implies, and_true, true_and, implies_true, ej]
  refine ⟨vw, ?_⟩
  obtain ⟨p1, ⟨n, hn, p2⟩, p3, p6⟩ := h.2.2.1 w hw
  by_cases m : σ.1 3 w 2 = 0
  · simp only [u_pmiss_y m, if0, if0n, if1, if1n, true_implies, not_true_eq_false, not_false_eq_true, false_implies, and_true, true_and, implies_true]
    rw [v_look_y hw (by simp (disch := decide) only [gsu_f, gsu_s, gsu_e, gsl_f, gsl_g, gsl_s, gsl_e, gsu_g]; rw [p1, m])]
    refine ⟨fun z => absurd z (by decide), fun _ => ⟨rfl, (by (repeat rw [gRs_su (by decide)]); exact h.1), (by (repeat rw [gRw_su (by decide)]); exact h.2.1), (by (repeat rw [gRp_su (by decide)]); exact h.2.2.1), (by (repeat rw [gRt_su (by decide)]); exact h.2.2.2.1), (by (repeat rw [gRa_su (by decide)]); exact h.2.2.2.2.1), (by (repeat rw [gRf_su (by decide)]); exact h.2.2.2.2.2.1), (by unfold gRz; simp (disch := decide) only [gsu_f, gsu_s, gsu_e])⟩⟩
  · simp only [u_pmiss_n m, if0, if0n, if1, if1n, true_implies, not_true_eq_false, not_false_eq_true, false_implies, and_true, true_and, implies_true]
    have hl : ∀ (τ : gT) (k : Int32 → gT → Prop), τ.1 36 0 w = σ.1 36 0 w → (wX10_lookAt (nI w) τ k ↔ k 0 (gsu τ 10 0 1 0)) := fun τ k e => v_look_n hw (by rw [e, p1]; exact m)
    obtain ⟨p4, p5⟩ := p3 j hj
    have fin : gR (gsu (gsu (gsu (gsu (gsu (gsu σ 17 w j 0) 3 w 1 ((gsu σ 17 w j 0).1 3 w 1 ||| ((1 : Int32) <<< (nI j &&& (31 : Int32))))) 9 0 10 0) 10 0 0 0) 10 0 1 0) 37 0 (16 * w + j) (-1)) := by
      refine ⟨(by (repeat rw [gRs_su (by decide)]); exact h.1), (by (repeat rw [gRw_su (by decide)]); exact h.2.1), ?_, (by (repeat rw [gRt_su (by decide)]); exact h.2.2.2.1), (by (repeat rw [gRa_su (by decide)]); exact h.2.2.2.2.1), (by (repeat rw [gRf_su (by decide)]); exact h.2.2.2.2.2.1), (by unfold gRz; simp (disch := decide) only [gsu_f, gsu_s, gsu_e])⟩
      refine gRp_lose (w := w) (j := j) h.2.2.1 hj (fun s => ?_) (fun s => ?_) (fun s => ?_) (fun s q => ?_) (fun s q hq => ?_)
      · simp (disch := decide) only [gsu_f, gsu_s, gsu_e, gsl_f, gsl_g, gsl_s, gsl_e, gsu_g]
      · simp (disch := decide) only [gsu_f, gsu_s, gsu_e, gsl_f, gsl_g, gsl_s, gsl_e, gsu_g]
      · simp (disch := decide) only [gsu_f, gsu_s, gsu_e, gsl_f, gsl_g, gsl_s, gsl_e, gsu_g]
        by_cases e : s = w
        · subst e
          rw [gsu_e, if_pos rfl]
        · rw [gsu_i e, if_neg e]
          simp (disch := decide) only [gsu_f, gsu_s, gsu_e, gsl_f, gsl_g, gsl_s, gsl_e, gsu_g]
      · simp (disch := decide) only [gsu_f, gsu_s, gsu_e, gsl_f, gsl_g, gsl_s, gsl_e, gsu_g]
        rw [gsu_1]
        by_cases c : s = w ∧ q = j
        · rw [if_pos ⟨rfl, c⟩, if_pos c]
        · rw [if_neg (fun z => c z.2), if_neg c]
      · rw [gsu_1]
        by_cases c : s = w ∧ q = j
        · rw [if_pos ⟨rfl, rfl, by omega⟩, if_pos c]
        · rw [if_neg (fun z => c (by have := z.2.2; omega)), if_neg c]
          simp (disch := decide) only [gsu_f, gsu_s, gsu_e, gsl_f, gsl_g, gsl_s, gsl_e, gsu_g]
    refine u_told hj (p6.2 j hj) ?_
    unfold wX3_loseGrain
    rw [ej]
    refine ⟨vj, ?_⟩
    dsimp only
    rw [hl _ _ (by simp (disch := decide) only [gsu_f, gsu_s, gsu_e, gsl_f, gsl_g, gsl_s, gsl_e, gsu_g])]
    simp only [v_told, ix16, eo]
    refine ⟨fun _ => ⟨vo, vo, ?_, fin⟩, fun z => absurd (by decide) z⟩
    simp (disch := decide) only [gsu_f, gsu_s, gsu_e, gsl_f, gsl_g, gsl_s, gsl_e, gsu_g]
    rw [p4]
set_option maxHeartbeats 1000000 in
theorem J_grain (x1 x2 : Int32) {σ : gT} (h : gR σ) : wX9_grain x1 x2 σ (fun r s1 => wX10_grain x1 x2 s1 (fun r2 s2 => r = r2 ∧ gR s2)) := by
  unfold wX9_grain wX10_grain wX9_grain_58 wX10_grain_27 wX9_fine wX9_found
  rcases ixc 6 (by decide) (x := x1) with c | ⟨w, hw, rfl⟩
  · simp only [u_isPlate_out c, v_isPlate_out c, if0, if0n, if1, if1n, true_implies, not_true_eq_false, not_false_eq_true, false_implies, and_true, true_and, implies_true]
    exact gR_thrown h
  have ew : (nI w).toNatClampNeg = w := nI_clamp (by omega)
  have vw : vp_in (nI w) 6 := vp_in_nI hw (by decide)
  simp only [u_isPlate_in hw, v_isPlate_in hw, if0, if0n, if1, if1n, true_implies, not_true_eq_false, not_false_eq_true, false_implies, and_true, true_and, implies_true, ew]
  obtain ⟨p1, ⟨n, hn, p2⟩, p3, p6⟩ := h.2.2.1 w hw
  have hl : ∀ (τ : gT) (k : Int32 → gT → Prop), ¬ σ.1 3 w 2 = 0 → τ.1 36 0 w = σ.1 36 0 w → (wX10_lookAt (nI w) τ k ↔ k 0 (gsu τ 10 0 1 0)) := fun τ k m e => v_look_n hw (by rw [e, p1]; exact m)
  have hl2 : ∀ (τ : gT) (k : Int32 → gT → Prop), σ.1 3 w 2 = 0 → τ.1 36 0 w = σ.1 36 0 w → (wX10_lookAt (nI w) τ k ↔ k (-1000011) (gsu τ 10 0 1 1)) := fun τ k m e => v_look_y hw (by rw [e, p1]; exact m)
  have keep : gR (gsu (gsu (gsu σ 9 0 10 0) 10 0 0 0) 10 0 1 0) := ⟨(by (repeat rw [gRs_su (by decide)]); exact h.1), (by (repeat rw [gRw_su (by decide)]); exact h.2.1), (by (repeat rw [gRp_su (by decide)]); exact h.2.2.1), (by (repeat rw [gRt_su (by decide)]); exact h.2.2.2.1), (by (repeat rw [gRa_su (by decide)]); exact h.2.2.2.2.1), (by (repeat rw [gRf_su (by decide)]); exact h.2.2.2.2.2.1), (by unfold gRz; simp (disch := decide) only [gsu_f, gsu_s, gsu_e])⟩
  have keep1 : gR (gsu (gsu (gsu σ 9 0 10 1) 10 0 0 0) 10 0 1 1) := ⟨(by (repeat rw [gRs_su (by decide)]); exact h.1), (by (repeat rw [gRw_su (by decide)]); exact h.2.1), (by (repeat rw [gRp_su (by decide)]); exact h.2.2.1), (by (repeat rw [gRt_su (by decide)]); exact h.2.2.2.1), (by (repeat rw [gRa_su (by decide)]); exact h.2.2.2.2.1), (by (repeat rw [gRf_su (by decide)]); exact h.2.2.2.2.2.1), (by unfold gRz; simp (disch := decide) only [gsu_f, gsu_s, gsu_e])⟩
  by_cases cm : x2 = -1
  · subst cm
    refine ⟨fun z => absurd z (by decide), fun _ => ⟨fun _ => ⟨vw, ?_⟩, fun z => absurd (by decide) z⟩⟩
    by_cases m : σ.1 3 w 2 = 0
    · simp only [u_pmiss_y m, if0, if0n, if1, if1n, true_implies, not_true_eq_false, not_false_eq_true, false_implies, and_true, true_and, implies_true]
      rw [hl2 _ _ m (by simp (disch := decide) only [gsu_f, gsu_s, gsu_e, gsl_f, gsl_g, gsl_s, gsl_e, gsu_g])]
      exact ⟨fun z => absurd z (by decide), fun _ => ⟨rfl, keep1⟩⟩
    · simp only [u_pmiss_n m, if0, if0n, if1, if1n, true_implies, not_true_eq_false, not_false_eq_true, false_implies, and_true, true_and, implies_true]
      refine ⟨fun z => absurd z (by decide), fun _ => ?_⟩
      rw [hl _ _ m (by simp (disch := decide) only [gsu_f, gsu_s, gsu_e, gsl_f, gsl_g, gsl_s, gsl_e, gsu_g])]
      refine ⟨fun _ => ⟨vw, ?_, keep⟩, fun z => absurd (by decide) z⟩
      simp (disch := decide) only [gsu_f, gsu_s, gsu_e, gsl_f, gsl_g, gsl_s, gsl_e, gsu_g]
      exact p1.symm
  rcases ixc 16 (by decide) (x := x2) with c | ⟨j, hj, rfl⟩
  · have hbad : (x2 < -1 ∨ ¬ x2 < 16) := by
      rcases c with c | c
      · left
        rw [fa_lt] at c ⊢
        rw [fa_eq] at cm
        have e1 : (-1 : Int32).toInt = -1 := by decide
        have e0 : (0 : Int32).toInt = 0 := by decide
        omega
      · right
        exact nlt_le.mpr c
    have hk : (x2 = -1 → wX10_lookAt (nI w) (gsu σ 10 0 0 0) fun r2 s1 => (0 ≤ r2 → (¬x2 = -1 → vp_in (16 * nI w + x2) 96 ∧ wX10_told (s1.1 37 0 (16 * nI w + x2).toNatClampNeg) s1 fun r5 s4 => (-1000001 : Int32) = r5 ∧ gR s4) ∧ (x2 = -1 → vp_in (nI w) 6 ∧ (-1000001 : Int32) = s1.1 36 0 w ∧ gR s1)) ∧ (¬0 ≤ r2 → (-1000001 : Int32) = r2 ∧ gR s1)) := fun z => absurd z cm
    simp only [v_isPlace_out c, if0, if0n, if1, if1n, true_implies, not_true_eq_false, not_false_eq_true, false_implies, and_true, true_and, implies_true]
    by_cases c1 : x2 < -1
    · refine ⟨fun _ => ⟨fun z => absurd z cm, fun _ => gR_thrown h⟩, fun z => absurd c1 z⟩
    · have c2 := hbad.resolve_left c1
      exact ⟨fun z => absurd z c1, fun _ => ⟨fun z => absurd z c2, fun _ => ⟨fun z => absurd z cm, fun _ => gR_thrown h⟩⟩⟩
  have ej : (nI j).toNatClampNeg = j := nI_clamp (by omega)
  have vj : vp_in (nI j) 16 := vp_in_nI hj (by decide)
  have eo : (nI (16 * w + j)).toNatClampNeg = 16 * w + j := nI_clamp (by omega)
  have vo : vp_in (nI (16 * w + j)) 96 := vp_in_nI (by omega) (by decide)
  have c1 : ¬ nI j < -1 := by
    rw [fa_lt, nI_toInt (by omega)]
    have e1 : (-1 : Int32).toInt = -1 := by decide
    omega
  have c2 : nI j < 16 := nI_lt (b := 16) hj (by decide)
  have c3 : 0 ≤ nI j := nI_pos' (by omega)
  obtain ⟨p4, p5⟩ := p3 j hj
  simp only [v_isPlace_in hj, if0, if0n, if1, if1n, true_implies, not_true_eq_false, not_false_eq_true, false_implies, and_true, true_and, implies_true, ej, ix16, eo]
  refine ⟨fun z => absurd z c1, fun _ => ⟨fun _ => ⟨vw, ?_⟩, fun z => absurd c2 z⟩⟩
  by_cases m : σ.1 3 w 2 = 0
  · simp only [u_pmiss_y m, if0, if0n, if1, if1n, true_implies, not_true_eq_false, not_false_eq_true, false_implies, and_true, true_and, implies_true]
    refine ⟨fun z => absurd z cm, fun _ => ?_⟩
    rw [hl2 _ _ m (by simp (disch := decide) only [gsu_f, gsu_s, gsu_e, gsl_f, gsl_g, gsl_s, gsl_e, gsu_g])]
    exact ⟨fun z => absurd z (by decide), fun _ => ⟨rfl, keep1⟩⟩
  · simp only [u_pmiss_n m, if0, if0n, if1, if1n, true_implies, not_true_eq_false, not_false_eq_true, false_implies, and_true, true_and, implies_true]
    refine ⟨fun _ => u_told hj (p6.2 j hj) ⟨fun z => absurd z cm, fun _ => ?_⟩, fun z => absurd c3 z⟩
    rw [hl _ _ m (by simp (disch := decide) only [gsu_f, gsu_s, gsu_e, gsl_f, gsl_g, gsl_s, gsl_e, gsu_g])]
    refine ⟨fun _ => ⟨fun _ => ⟨vo, ?_⟩, fun z => absurd z cm⟩, fun z => absurd (by decide) z⟩
    rw [v_told]
    simp (disch := decide) only [gsu_f, gsu_s, gsu_e, gsl_f, gsl_g, gsl_s, gsl_e, gsu_g]
    rw [p4]
    exact ⟨rfl, keep⟩
