/-! PURE: the small methods, class and model side by side -/
theorem J_fault {σ : gT} (h : gR σ) : wX9_fault σ (fun r s1 => wX10_fault s1 (fun r2 s2 => r = r2 ∧ gR s2)) := by
  unfold wX9_fault wX10_fault
  exact ⟨h.2.2.2.2.2.1.symm, gR_thrown h⟩
theorem J_status {σ : gT} (h : gR σ) : wX9_status σ (fun r s1 => wX10_status s1 (fun r2 s2 => r = r2 ∧ gR s2)) := by
  unfold wX9_status wX10_status
  exact ⟨h.2.2.2.2.2.2.symm, gR_thrown h⟩
set_option maxHeartbeats 1000000 in
theorem J_part (x1 x2 x3 : Int32) {σ : gT} (h : gR σ) : wX9_part x1 x2 x3 σ (fun r s1 => wX10_part x1 x2 x3 s1 (fun r2 s2 => r = r2 ∧ gR s2)) := by
  unfold wX9_part wX10_part wX10_part_29
  rcases ixc 8 (by decide) (x := x1) with c | ⟨w, hw, rfl⟩
  · simp only [u_isWave_out c, v_isWave_out c, if0, if0n, if1, if1n, true_implies, not_true_eq_false, not_false_eq_true, false_implies, and_true, true_and, implies_true]
    exact gR_thrown h
  simp only [u_isWave_in hw, v_isWave_in hw, if0, if0n, if1, if1n, true_implies, not_true_eq_false, not_false_eq_true, false_implies, and_true, true_and, implies_true]
  rcases ixc 16 (by decide) (x := x2) with c | ⟨q, hq, rfl⟩
  · simp only [u_below_out (b := 16) c, v_isPlace_out c, if0, if0n, if1, if1n, true_implies, not_true_eq_false, not_false_eq_true, false_implies, and_true, true_and, implies_true]
    exact gR_thrown h
  have hb : ∀ (σ : gT) (k : Int32 → gT → Prop), wX9_below (nI q) (16 : Int32) σ k ↔ k 1 σ := fun σ k => u_below_in (N := 16) hq (by decide)
  simp only [hb, v_isPlace_in hq, if0, if0n, if1, if1n, true_implies, not_true_eq_false, not_false_eq_true, false_implies, and_true, true_and, implies_true]
  rcases ixc 2 (by decide) (x := x3) with c | ⟨t, ht, rfl⟩
  · have h2 : ∀ (σ : gT) (k : Int32 → gT → Prop), wX10_in x3.toInt64 (0 : Int64) (1 : Int64) σ k ↔ k 0 σ := fun σ k => v_outN (N := 2) (by decide) (by decide) rfl c
    simp only [u_below_out (b := 2) c, h2, if0, if0n, if1, if1n, true_implies, not_true_eq_false, not_false_eq_true, false_implies, and_true, true_and, implies_true]
    exact gR_thrown h
  have h1 : ∀ (σ : gT) (k : Int32 → gT → Prop), wX9_below (nI t) (2 : Int32) σ k ↔ k 1 σ := fun σ k => u_below_in (N := 2) ht (by decide)
  have h2 : ∀ (σ : gT) (k : Int32 → gT → Prop), wX10_in (nI t).toInt64 (0 : Int64) (1 : Int64) σ k ↔ k 1 σ := fun σ k => v_inN (N := 2) ht (by decide) rfl
  have hv : vp_in (nI (16 * w + q)) 128 := vp_in_nI (by omega) (by decide)
  have e1 : (nI w).toNatClampNeg = w := nI_clamp (by omega)
  have e2 : (nI q).toNatClampNeg = q := nI_clamp (by omega)
  have e3 : (nI (16 * w + q)).toNatClampNeg = 16 * w + q := nI_clamp (by omega)
  simp only [h1, h2, if0, if0n, if1, if1n, true_implies, not_true_eq_false, not_false_eq_true, false_implies, and_true, true_and, implies_true, ix16, e1, e2, e3]
  obtain ⟨r1, r2, -, -⟩ := h.2.1 w hw q hq
  refine ⟨fun z => ⟨vp_in_nI hw (by decide), vp_in_nI hq (by decide), ⟨fun _ => ⟨hv, ?_, gR_thrown h⟩, fun y => absurd y z⟩⟩, fun z => ⟨vp_in_nI hw (by decide), vp_in_nI hq (by decide), ⟨fun y => absurd z y, fun _ => ⟨hv, ?_, gR_thrown h⟩⟩⟩⟩
  · exact r2.symm
  · exact r1.symm
