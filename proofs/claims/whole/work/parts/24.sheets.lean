/-! PURE: sheets -/
theorem gRs_at {σ : gT} (h : gRs σ) {s : Nat} (hs : s < 8) : σ.1 28 0 s = σ.1 6 s 1 ∧ (σ.1 6 s 1 = -1 ∨ (¬ σ.1 6 s 1 = -1 ∧ 0 ≤ σ.1 6 s 1)) := by
  obtain ⟨h1, h2, -⟩ := h s hs
  refine ⟨h1, ?_⟩
  rcases h2 with z | z | z | z <;> rw [z] <;> decide
set_option maxHeartbeats 1000000 in
theorem J_drop (x1 : Int32) {σ : gT} (h : gR σ) : wX9_drop x1 σ (fun r s1 => wX10_drop x1 s1 (fun r2 s2 => r = r2 ∧ gR s2)) := by
  unfold wX9_drop wX10_drop wX6_goMissing wX9_fine wX9_found wX10_finding
  rcases ixc 8 (by decide) (x := x1) with c | ⟨w, hw, rfl⟩
  · simp only [u_isSheet_out c, v_isSheet_out c, if0, if0n, if1, if1n, true_implies, not_true_eq_false, not_false_eq_true, false_implies, and_true, true_and, implies_true]
    exact gR_thrown h
  have ew : (nI w).toNatClampNeg = w := nI_clamp (by omega)
  have vw : vp_in (nI w) 8 := vp_in_nI hw (by decide)
  obtain ⟨r1, r2⟩ := gRs_at h.1 hw
  simp only [u_isSheet_in hw, v_isSheet_in hw, if0, if0n, if1, if1n, true_implies, not_true_eq_false, not_false_eq_true, false_implies, and_true, true_and, implies_true, ew]
  refine ⟨vw, ?_⟩
  rcases r2 with m | ⟨m, m2⟩
  · simp only [u_miss_y m, if0, if0n, if1, if1n, true_implies, not_true_eq_false, not_false_eq_true, false_implies, and_true, true_and, implies_true]
    refine ⟨vw, fun z => absurd z ?_, fun _ => ⟨(by (repeat rw [gRs_su (by decide)]); exact h.1), (by (repeat rw [gRw_su (by decide)]); exact h.2.1), (by (repeat rw [gRp_su (by decide)]); exact h.2.2.1), (by (repeat rw [gRt_su (by decide)]); exact h.2.2.2.1), (by (repeat rw [gRa_su (by decide)]); exact h.2.2.2.2.1), (by (repeat rw [gRf_su (by decide)]); exact h.2.2.2.2.2.1), (by unfold gRz; simp (disch := decide) only [gsu_f, gsu_s, gsu_e])⟩⟩
    simp (disch := decide) only [gsu_f, gsu_s, gsu_e, gsl_f, gsl_g, gsl_s, gsl_e, gsu_g]
    rw [r1, m]
    decide
  · simp only [u_miss_n m, if0, if0n, if1, if1n, true_implies, not_true_eq_false, not_false_eq_true, false_implies, and_true, true_and, implies_true]
    obtain ⟨n, hn, z1, z2⟩ := (h.1 w hw).2.2.1 m
    refine ⟨vw, fun _ => ⟨vw, vw, ?_, ?_, (by (repeat rw [gRw_su (by decide)]); exact h.2.1), (by (repeat rw [gRp_su (by decide)]); exact h.2.2.1), (by (repeat rw [gRt_su (by decide)]); exact h.2.2.2.1), (by (repeat rw [gRa_su (by decide)]); exact h.2.2.2.2.1), (by (repeat rw [gRf_su (by decide)]); exact h.2.2.2.2.2.1), (by unfold gRz; simp (disch := decide) only [gsu_f, gsu_s, gsu_e])⟩, fun z => absurd ?_ z⟩
    · simp (disch := decide) only [gsu_f, gsu_s, gsu_e, gsl_f, gsl_g, gsl_s, gsl_e, gsu_g]
      rw [z1, z2]
    · intro s hs
      simp (disch := decide) only [gsu_f, gsu_s, gsu_e, gsl_f, gsl_g, gsl_s, gsl_e, gsu_g]
      obtain ⟨q1, q2, q3, q4⟩ := h.1 s hs
      by_cases e : s = w
      · subst e
        simp only [gsu_1, and_self, if_true]
        refine ⟨by simp, Or.inl (by simp), fun z => absurd (by simp) z, q4⟩
      · simp only [gsu_1, e, false_and, and_false, if_false]
        exact ⟨q1, q2, q3, q4⟩
    · simp (disch := decide) only [gsu_f, gsu_s, gsu_e, gsl_f, gsl_g, gsl_s, gsl_e, gsu_g]
      rw [r1]
      exact m2
set_option maxHeartbeats 1000000 in
theorem J_trace (x1 : Int32) {σ : gT} (h : gR σ) : wX9_trace x1 σ (fun r s1 => wX10_trace x1 s1 (fun r2 s2 => r = r2 ∧ gR s2)) := by
  unfold wX9_trace wX10_trace
  obtain ⟨n, hn, a1, a2, a3⟩ := h.2.2.2.2.1
  simp (disch := decide) only [gsu_f, gsu_s, gsu_e, gsl_f, gsl_g, gsl_s, gsl_e, gsu_g]
  rw [a1]
  rcases ixc n (by omega) (x := x1) with c | ⟨w, hw, rfl⟩
  · have hz : ∀ (σ : gT) (k : Int32 → gT → Prop), wX10_in x1.toInt64 (0 : Int64) (nI n - 1).toInt64 σ k ↔ k 0 σ := fun σ k => v_insz_n (by omega) (by
      rcases c with c | c
      · rw [fa_lt] at c; intro z; have : x1.toInt < 0 := c; omega
      · rw [fa_le, nI_toInt (by omega)] at c; omega)
    simp only [u_below_out c, if0, if0n, if1, if1n, true_implies, not_true_eq_false, not_false_eq_true, false_implies, and_true, true_and, implies_true]
    rw [a2]
    simp only [hz, if0, if0n, if1, if1n, true_implies, not_true_eq_false, not_false_eq_true, false_implies, and_true, true_and, implies_true]
    exact gR_thrown h
  · have hz : ∀ (σ : gT) (k : Int32 → gT → Prop), wX10_in (nI w).toInt64 (0 : Int64) (nI n - 1).toInt64 σ k ↔ k 1 σ := fun σ k => v_insz_y (by omega) (by rw [nI_toInt (by omega)]; omega)
    have ew : (nI w).toNatClampNeg = w := nI_clamp (by omega)
    simp only [u_below_in hw (show n < 2 ^ 31 by omega), if0, if0n, if1, if1n, true_implies, not_true_eq_false, not_false_eq_true, false_implies, and_true, true_and, implies_true, ew]
    rw [a2]
    simp only [hz, if0, if0n, if1, if1n, true_implies, not_true_eq_false, not_false_eq_true, false_implies, and_true, true_and, implies_true]
    refine ⟨vp_in_nI (by omega) (by decide), vp_in_nI (by omega) (by decide), ?_, gR_thrown h⟩
    simp (disch := decide) only [gsu_f, gsu_s, gsu_e, gsl_f, gsl_g, gsl_s, gsl_e, gsu_g]
    exact (a3 w hw).symm
set_option maxHeartbeats 1000000 in
theorem J_set (x1 x2 x3 : Int32) {σ : gT} (h : gR σ) : wX9_set x1 x2 x3 σ (fun r s1 => wX10_set x1 x2 x3 s1 (fun r2 s2 => r = r2 ∧ gR s2)) := by
  unfold wX9_set wX10_set wX10_set_99 wX6_cut wX9_fine wX9_found wX10_finding
  rcases ixc 8 (by decide) (x := x1) with c | ⟨w, hw, rfl⟩
  · simp only [u_isSheet_out c, v_isSheet_out c, if0, if0n, if1, if1n, true_implies, not_true_eq_false, not_false_eq_true, false_implies, and_true, true_and, implies_true]
    exact gR_thrown h
  have ew : (nI w).toNatClampNeg = w := nI_clamp (by omega)
  have vw : vp_in (nI w) 8 := vp_in_nI hw (by decide)
  obtain ⟨r1, r2⟩ := gRs_at h.1 hw
  simp only [u_isSheet_in hw, v_isSheet_in hw, if0, if0n, if1, if1n, true_implies, not_true_eq_false, not_false_eq_true, false_implies, and_true, true_and, implies_true, ew]
  refine ⟨vw, ?_⟩
  rcases r2 with m | ⟨m, m2⟩
  · simp only [u_miss_y m, if0, if0n, if1, if1n, true_implies, not_true_eq_false, not_false_eq_true, false_implies, and_true, true_and, implies_true]
    refine ⟨vw, fun z => absurd z ?_, fun _ => ⟨(by (repeat rw [gRs_su (by decide)]); exact h.1), (by (repeat rw [gRw_su (by decide)]); exact h.2.1), (by (repeat rw [gRp_su (by decide)]); exact h.2.2.1), (by (repeat rw [gRt_su (by decide)]); exact h.2.2.2.1), (by (repeat rw [gRa_su (by decide)]); exact h.2.2.2.2.1), (by (repeat rw [gRf_su (by decide)]); exact h.2.2.2.2.2.1), (by unfold gRz; simp (disch := decide) only [gsu_f, gsu_s, gsu_e])⟩⟩
    simp (disch := decide) only [gsu_f, gsu_s, gsu_e, gsl_f, gsl_g, gsl_s, gsl_e, gsu_g]
    rw [r1, m]
    decide
  · simp only [u_miss_n m, if0, if0n, if1, if1n, true_implies, not_true_eq_false, not_false_eq_true, false_implies, and_true, true_and, implies_true]
    obtain ⟨n, hn, z1, z2⟩ := (h.1 w hw).2.2.1 m
    by_cases c : 0 ≤ x2.toInt ∧ x2.toInt < n
    · rw [u_reach_y hn z1 ⟨c.1, by decide, by show x2.toInt + 1 ≤ n; omega⟩]
      obtain ⟨j, hj0, rfl⟩ := nI_of (x := x2) (by rw [fa_lt]; show ¬ x2.toInt < 0; omega)
      rw [nI_toInt hj0] at c
      have hj : j < 64 := by omega
      have ej : (nI j).toNatClampNeg = j := nI_clamp (by omega)
      have vj : vp_in (nI j) 64 := vp_in_nI hj (by decide)
      have eo : (nI (64 * w + j)).toNatClampNeg = 64 * w + j := nI_clamp (by omega)
      have vo : vp_in (nI (64 * w + j)) 512 := vp_in_nI (by omega) (by decide)
      have hin : ∀ (σ : gT) (k : Int32 → gT → Prop), wX10_in (nI j).toInt64 (0 : Int64) (nI n - 1).toInt64 σ k ↔ k 1 σ := fun σ k => v_insz_y (by omega) (by rw [nI_toInt hj0]; omega)
      have fin : ∀ v : Int32, gR (gsu (gsu (gsu (gsu (gsu σ 21 w j v) 9 0 10 0) 10 0 0 0) 10 0 1 0) 30 0 (64 * w + j) v) := by
        intro v
        refine ⟨?_, (by (repeat rw [gRw_su (by decide)]); exact h.2.1), (by (repeat rw [gRp_su (by decide)]); exact h.2.2.1), (by (repeat rw [gRt_su (by decide)]); exact h.2.2.2.1), (by (repeat rw [gRa_su (by decide)]); exact h.2.2.2.2.1), (by (repeat rw [gRf_su (by decide)]); exact h.2.2.2.2.2.1), (by unfold gRz; simp (disch := decide) only [gsu_f, gsu_s, gsu_e])⟩
        intro s hs
        obtain ⟨q1, q2, q3, q4⟩ := h.1 s hs
        simp (disch := decide) only [gsu_f, gsu_s, gsu_e, gsl_f, gsl_g, gsl_s, gsl_e, gsu_g]
        refine ⟨q1, q2, q3, fun q hq => ?_⟩
        by_cases e : s = w ∧ q = j
        · obtain ⟨rfl, rfl⟩ := e
          rw [gsu_e, gsu_e]
        · rw [gsu_s (by omega)]
          simp (disch := decide) only [gsu_f, gsu_s, gsu_e, gsl_f, gsl_g, gsl_s, gsl_e, gsu_g]
          rw [gsu_1, if_neg (fun z => e z.2)]
          exact q4 q hq
      simp only [if0, if0n, if1, if1n, true_implies, not_true_eq_false, not_false_eq_true, false_implies, and_true, true_and, implies_true, ej, ix64, eo]
      refine ⟨fun l0 => ⟨fun l1 => ⟨vj, vj, vw, fun _ => ⟨vw, ?_⟩, fun z => absurd ?_ z⟩, fun l1 => ⟨vj, vj, vw, fun _ => ⟨vw, ?_⟩, fun z => absurd ?_ z⟩⟩, fun l0 => ⟨vj, vj, vw, fun _ => ⟨vw, ?_⟩, fun z => absurd ?_ z⟩⟩
      · simp (disch := decide) only [gsu_f, gsu_s, gsu_e, gsl_f, gsl_g, gsl_s, gsl_e, gsu_g]
        rw [z2, hin]
        simp (disch := decide) only [gsu_f, gsu_s, gsu_e, gsl_f, gsl_g, gsl_s, gsl_e, gsu_g, if0, if0n, if1, if1n, true_implies, not_true_eq_false, not_false_eq_true, false_implies, and_true, true_and, implies_true, r1]
        exact ⟨vw, fun _ => ⟨vw, fun _ => ⟨vo, vo, fin x3⟩, fun z => absurd z l1⟩, fun z => absurd z l0⟩
      · simp (disch := decide) only [gsu_f, gsu_s, gsu_e, gsl_f, gsl_g, gsl_s, gsl_e, gsu_g]; rw [r1]; exact m2
      · simp (disch := decide) only [gsu_f, gsu_s, gsu_e, gsl_f, gsl_g, gsl_s, gsl_e, gsu_g]
        rw [z2, hin]
        simp (disch := decide) only [gsu_f, gsu_s, gsu_e, gsl_f, gsl_g, gsl_s, gsl_e, gsu_g, if0, if0n, if1, if1n, true_implies, not_true_eq_false, not_false_eq_true, false_implies, and_true, true_and, implies_true, r1]
        exact ⟨vw, fun _ => ⟨vw, fun z => absurd l1 z, fun _ => ⟨vo, vo, fin _⟩⟩, fun z => absurd z l0⟩
      · simp (disch := decide) only [gsu_f, gsu_s, gsu_e, gsl_f, gsl_g, gsl_s, gsl_e, gsu_g]; rw [r1]; exact m2
      · simp (disch := decide) only [gsu_f, gsu_s, gsu_e, gsl_f, gsl_g, gsl_s, gsl_e, gsu_g]
        rw [z2, hin]
        simp (disch := decide) only [gsu_f, gsu_s, gsu_e, gsl_f, gsl_g, gsl_s, gsl_e, gsu_g, if0, if0n, if1, if1n, true_implies, not_true_eq_false, not_false_eq_true, false_implies, and_true, true_and, implies_true, r1]
        exact ⟨vw, fun z => absurd l0 z, fun _ => ⟨vo, vo, fin _⟩⟩
      · simp (disch := decide) only [gsu_f, gsu_s, gsu_e, gsl_f, gsl_g, gsl_s, gsl_e, gsu_g]; rw [r1]; exact m2
    · rw [u_reach_n hn z1 (by intro z; apply c; have : x2.toInt + 1 ≤ n := z.2.2; exact ⟨z.1, by omega⟩)]
      have hin : ∀ (σ : gT) (k : Int32 → gT → Prop), wX10_in x2.toInt64 (0 : Int64) (nI n - 1).toInt64 σ k ↔ k 0 σ := fun σ k => v_insz_n (by omega) c
      simp only [if0, if0n, if1, if1n, true_implies, not_true_eq_false, not_false_eq_true, false_implies, and_true, true_and, implies_true]
      refine ⟨vw, fun _ => ⟨vw, ?_⟩, fun z => absurd ?_ z⟩
      · simp (disch := decide) only [gsu_f, gsu_s, gsu_e, gsl_f, gsl_g, gsl_s, gsl_e, gsu_g]
        rw [z2, hin]
        simp only [if0, if0n, if1, if1n, true_implies, not_true_eq_false, not_false_eq_true, false_implies, and_true, true_and, implies_true]
        exact ⟨(by (repeat rw [gRs_su (by decide)]); exact h.1), (by (repeat rw [gRw_su (by decide)]); exact h.2.1), (by (repeat rw [gRp_su (by decide)]); exact h.2.2.1), (by (repeat rw [gRt_su (by decide)]); exact h.2.2.2.1), (by (repeat rw [gRa_su (by decide)]); exact h.2.2.2.2.1), (by (repeat rw [gRf_su (by decide)]); exact h.2.2.2.2.2.1), (by unfold gRz; simp (disch := decide) only [gsu_f, gsu_s, gsu_e])⟩
      · simp (disch := decide) only [gsu_f, gsu_s, gsu_e, gsl_f, gsl_g, gsl_s, gsl_e, gsu_g]; rw [r1]; exact m2
