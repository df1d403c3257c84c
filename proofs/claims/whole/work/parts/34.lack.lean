/-! PURE: a loop that counts up; lack -/
set_option maxHeartbeats 1000000 in
theorem gloop {N : Nat} (L : Nat → Nat → Prop) (he : L 1 N) (hs : ∀ m j, j < N → L m (j + 1) → L (m + 1) j) : ∃ n, L n 0 := by
  have key : ∀ m j, j + m = N → L (m + 1) j := by
    intro m
    induction m with
    | zero =>
      intro j hj
      have hz : j = N := by omega
      subst hz
      exact he
    | succ m ih =>
      intro j hj
      exact hs _ j (by omega) (ih (j + 1) (by omega))
  exact ⟨N + 1, key N 0 (by omega)⟩
def glab (y : Int64) : Int64 := if 0 ≤ y.toInt then y else -y
def giab (x : Int32) : Int32 := if 0 ≤ x.toInt then x else -x
theorem u_iabs {x : Int32} {σ : gT} {k : Int32 → gT → Prop} (h : k (giab x) σ) : wJ9_abs_0f7a4 x σ k := by
  unfold wJ9_abs_0f7a4
  unfold giab at h
  rw [fa_le]
  refine ⟨fun c => ?_, fun c => ?_⟩
  · have c : 0 ≤ x.toInt := c
    rw [if_pos c] at h; exact h
  · have c : ¬ 0 ≤ x.toInt := c
    rw [if_neg c] at h; exact h
theorem v_length {y : Int64} {σ : gT} {k : Int64 → gT → Prop} (h : k (glab y) σ) : wX10_length y σ k := by
  unfold wX10_length
  unfold glab at h
  rw [cmp_ge0, fa_le64]
  refine ⟨fun c => ?_, fun c => ?_⟩
  · have c : 0 ≤ y.toInt := c
    rw [if_pos c] at h; exact h
  · have c : ¬ 0 ≤ y.toInt := c
    rw [if_neg c] at h; exact h
theorem giab_int {x : Int32} (h : -1000000 ≤ x.toInt ∧ x.toInt ≤ 1000000) : (giab x).toInt = (if 0 ≤ x.toInt then x.toInt else -x.toInt) := by
  unfold giab
  split
  · rfl
  · rw [Int32.toInt_neg, Int.bmod_def]; omega
theorem glab_int {x : Int32} : (glab x.toInt64).toInt = (if 0 ≤ x.toInt then x.toInt else -x.toInt) := by
  unfold glab
  rw [Int32.toInt_toInt64]
  split
  · rw [Int32.toInt_toInt64]
  · rw [Int64.toInt_neg, Int32.toInt_toInt64, Int.bmod_def]
    have h1 := Int32.le_toInt x
    have h2 := Int32.toInt_lt x
    omega
theorem ab_sum {a b : Int32} (ha : -1000000 ≤ a.toInt ∧ a.toInt ≤ 1000000) (hb : -1000000 ≤ b.toInt ∧ b.toInt ≤ 1000000) : (giab a + giab b).toInt64 = glab a.toInt64 + glab b.toInt64 := by
  rw [fa_eq64, Int32.toInt_toInt64, Int32.toInt_add, Int64.toInt_add, giab_int ha, giab_int hb, glab_int, glab_int, Int.bmod_def, Int.bmod_def]
  split <;> split <;> omega
set_option maxHeartbeats 1000000 in
theorem J_lack (x1 x2 x3 : Int32) {σ : gT} (h : gR σ) : wX9_lack x1 x2 x3 σ (fun r s1 => wX10_lack x1 x2 x3 s1 (fun r2 s2 => r = r2 ∧ gR s2)) := by
  unfold wX9_lack wX10_lack wX9_lack_57 wX10_lack_48 wX9_found wX10_finding
  rcases ixc 6 (by decide) (x := x1) with c | ⟨p, hp, rfl⟩
  · simp only [u_isPlate_out c, v_isPlate_out c, if0, if0n, if1, if1n, true_implies, not_true_eq_false, not_false_eq_true, false_implies, and_true, true_and, implies_true]
    exact gR_thrown h
  have ep : (nI p).toNatClampNeg = p := nI_clamp (by omega)
  have vp : vp_in (nI p) 6 := vp_in_nI hp (by decide)
  simp only [u_isPlate_in hp, v_isPlate_in hp, if0, if0n, if1, if1n, true_implies, not_true_eq_false, not_false_eq_true, false_implies, and_true, true_and, implies_true, ep]
  rcases ixc 6 (by decide) (x := x2) with c | ⟨q, hq, rfl⟩
  · simp only [u_isPlate_out c, v_isPlate_out c, if0, if0n, if1, if1n, true_implies, not_true_eq_false, not_false_eq_true, false_implies, and_true, true_and, implies_true]
    exact gR_thrown h
  have eq : (nI q).toNatClampNeg = q := nI_clamp (by omega)
  have vq : vp_in (nI q) 6 := vp_in_nI hq (by decide)
  simp only [u_isPlate_in hq, v_isPlate_in hq, if0, if0n, if1, if1n, true_implies, not_true_eq_false, not_false_eq_true, false_implies, and_true, true_and, implies_true, eq]
  rcases ixc 8 (by decide) (x := x3) with c | ⟨w, hw, rfl⟩
  · simp only [u_isWave_out c, v_isWave_out c, if0, if0n, if1, if1n, true_implies, not_true_eq_false, not_false_eq_true, false_implies, and_true, true_and, implies_true]
    exact gR_thrown h
  have ew : (nI w).toNatClampNeg = w := nI_clamp (by omega)
  have vw : vp_in (nI w) 8 := vp_in_nI hw (by decide)
  simp only [u_isWave_in hw, v_isWave_in hw, if0, if0n, if1, if1n, true_implies, not_true_eq_false, not_false_eq_true, false_implies, and_true, true_and, implies_true, ew]
  obtain ⟨p1, p2, p3, p6⟩ := h.2.2.1 p hp
  obtain ⟨q1, q2, q3, q6⟩ := h.2.2.1 q hq
  refine ⟨vp, vq, ?_⟩
  have keep1 : gR (gsu (gsu (gsu σ 9 0 10 1) 10 0 0 0) 10 0 1 1) := ⟨(by (repeat rw [gRs_su (by decide)]); exact h.1), (by (repeat rw [gRw_su (by decide)]); exact h.2.1), (by (repeat rw [gRp_su (by decide)]); exact h.2.2.1), (by (repeat rw [gRt_su (by decide)]); exact h.2.2.2.1), (by (repeat rw [gRa_su (by decide)]); exact h.2.2.2.2.1), (by (repeat rw [gRf_su (by decide)]); exact h.2.2.2.2.2.1), (by unfold gRz; simp (disch := decide) only [gsu_f, gsu_s, gsu_e])⟩
  have keep : gR (gsu (gsu (gsu σ 9 0 10 0) 10 0 0 0) 10 0 1 0) := ⟨(by (repeat rw [gRs_su (by decide)]); exact h.1), (by (repeat rw [gRw_su (by decide)]); exact h.2.1), (by (repeat rw [gRp_su (by decide)]); exact h.2.2.1), (by (repeat rw [gRt_su (by decide)]); exact h.2.2.2.1), (by (repeat rw [gRa_su (by decide)]); exact h.2.2.2.2.1), (by (repeat rw [gRf_su (by decide)]); exact h.2.2.2.2.2.1), (by unfold gRz; simp (disch := decide) only [gsu_f, gsu_s, gsu_e])⟩
  by_cases m : σ.1 3 p 2 = 0
  · simp only [u_pmiss_y m, if0, if0n, if1, if1n, true_implies, not_true_eq_false, not_false_eq_true, false_implies, and_true, true_and, implies_true]
    refine ⟨vp, fun _ => keep1, fun z => absurd ?_ z⟩
    simp (disch := decide) only [gsu_f, gsu_s, gsu_e, gsl_f, gsl_g, gsl_s, gsl_e, gsu_g]
    rw [p1, m]
  by_cases m2 : σ.1 3 q 2 = 0
  · simp only [u_pmiss_n m, u_pmiss_y m2, if0, if0n, if1, if1n, true_implies, not_true_eq_false, not_false_eq_true, false_implies, and_true, true_and, implies_true]
    refine ⟨vp, fun _ => keep1, fun _ => ⟨vq, fun z => absurd ?_ z, fun _ => keep1⟩⟩
    simp (disch := decide) only [gsu_f, gsu_s, gsu_e, gsl_f, gsl_g, gsl_s, gsl_e, gsu_g]
    rw [q1, m2]
  simp only [u_pmiss_n m, u_pmiss_n m2, if0, if0n, if1, if1n, true_implies, not_true_eq_false, not_false_eq_true, false_implies, and_true, true_and, implies_true]
  refine ⟨vw, ?_⟩
  generalize hf : (fun j => glab (gwt (gpg σ p j) (σ.1 3 p 2) - gwt (gpg σ q j) (σ.1 3 q 2)) * (giab (σ.1 23 w j) + giab (σ.1 24 w j)).toInt64) = f
  have U : ∀ (k : Int64 → gT → Prop), k (gsum f 16) (gsu σ 9 0 10 0) → ∃ n, wX9_lack_78 k n p q w 0 0 σ := by
    intro k hk
    refine gloop (N := 16) (fun m j => wX9_lack_78 k m p q w (gsum f j) (nI j) σ) ?_ ?_
    · unfold wX9_lack_78
      exact ⟨fun _ => hk, fun z => absurd (by decide) z⟩
    · intro n j hj hn
      have v : vp_in (nI j) 16 := vp_in_nI hj (by decide)
      unfold wX9_lack_78
      rw [nI_clamp (show j < 2 ^ 31 by omega), nI_1]
      refine ⟨fun z => absurd z (nI_ge (b := 16) hj (by decide)), fun _ => u_weight hj (p6.2 j hj) (u_weight hj (q6.2 j hj) (u_abs ⟨v, u_iabs ⟨v, u_iabs ?_⟩⟩))⟩
      have e : gsum f (j + 1) = gsum f j + f j := rfl
      rw [e, ← hf] at hn
      rw [← hf]
      exact hn
  have V : ∀ (τ : gT) (k : Int64 → gT → Prop), (∀ q, q < 16 → τ.1 31 0 (16 * w + q) = σ.1 23 w q ∧ τ.1 32 0 (16 * w + q) = σ.1 24 w q) → (∀ j, j < 16 → τ.1 37 0 (16 * p + j) = gpg σ p j ∧ τ.1 37 0 (16 * q + j) = gpg σ q j) → τ.1 36 0 p = σ.1 3 p 2 → τ.1 36 0 q = σ.1 3 q 2 → k (gsum f 16) τ → ∃ n, wX10_lack_66 k n (nI p) (nI q) (nI w) 0 0 τ := by
    intro τ k h1 h2 h3 h4 hk
    refine gloop (N := 16) (fun m j => wX10_lack_66 k m (nI p) (nI q) (nI w) (gsum f j) (nI j) τ) ?_ ?_
    · unfold wX10_lack_66
      exact ⟨fun _ => hk, fun z => absurd (by decide) z⟩
    · intro n j hj hn
      have v : vp_in (nI (16 * w + j)) 128 := vp_in_nI (by omega) (by decide)
      unfold wX10_lack_66
      rw [ix16, nI_clamp (show 16 * w + j < 2 ^ 31 by omega), nI_1]
      refine ⟨fun z => absurd z (nI_ge (b := 16) hj (by decide)), fun _ => (v_sends hp hj (h2 j hj).1 h3).mpr ((v_sends hq hj (h2 j hj).2 h4).mpr (v_length ⟨v, ?_⟩))⟩
      rw [(h1 j hj).1]
      refine v_length ⟨v, ?_⟩
      rw [(h1 j hj).2]
      refine v_length ?_
      have e : gsum f (j + 1) = gsum f j + f j := rfl
      have ef : f j = glab (gwt (gpg σ p j) (σ.1 3 p 2) - gwt (gpg σ q j) (σ.1 3 q 2)) * (glab (σ.1 23 w j).toInt64 + glab (σ.1 24 w j).toInt64) := by
        rw [← hf]
        dsimp only
        rw [ab_sum (h.2.1 w hw j hj).2.2.1 (h.2.1 w hw j hj).2.2.2]
      rw [e, ef] at hn
      exact hn
  refine U _ ⟨vp, fun z => absurd ?_ m, fun _ => ⟨vq, fun _ => V _ _ (fun j hj => ?_) (fun j hj => ?_) ?_ ?_ ⟨rfl, keep⟩, fun z => absurd ?_ m2⟩⟩
  · simp (disch := decide) only [gsu_f, gsu_s, gsu_e, gsl_f, gsl_g, gsl_s, gsl_e, gsu_g] at z
    rw [← p1]; exact z
  · simp (disch := decide) only [gsu_f, gsu_s, gsu_e, gsl_f, gsl_g, gsl_s, gsl_e, gsu_g]
    exact ⟨(h.2.1 w hw j hj).1, (h.2.1 w hw j hj).2.1⟩
  · simp (disch := decide) only [gsu_f, gsu_s, gsu_e, gsl_f, gsl_g, gsl_s, gsl_e, gsu_g]
    exact ⟨(p3 j hj).1, (q3 j hj).1⟩
  · simp (disch := decide) only [gsu_f, gsu_s, gsu_e, gsl_f, gsl_g, gsl_s, gsl_e, gsu_g]
    exact p1
  · simp (disch := decide) only [gsu_f, gsu_s, gsu_e, gsl_f, gsl_g, gsl_s, gsl_e, gsu_g]
    exact q1
  · simp (disch := decide) only [gsu_f, gsu_s, gsu_e, gsl_f, gsl_g, gsl_s, gsl_e, gsu_g] at z
    rw [← q1]; exact z
