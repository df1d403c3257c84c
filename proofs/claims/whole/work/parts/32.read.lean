/-! PURE: products without overflow; weights; read -/
theorem mul_bd {a b : Int} {M N : Nat} (ha : -(M : Int) ≤ a ∧ a ≤ M) (hb : -(N : Int) ≤ b ∧ b ≤ N) : -((M * N : Nat) : Int) ≤ a * b ∧ a * b ≤ ((M * N : Nat) : Int) := by
  have h1 : a.natAbs ≤ M := by omega
  have h2 : b.natAbs ≤ N := by omega
  have h3 : (a * b).natAbs ≤ M * N := by rw [Int.natAbs_mul]; exact Nat.mul_le_mul h1 h2
  omega
theorem mul64 {x y : Int64} {M N : Nat} (hx : -(M : Int) ≤ x.toInt ∧ x.toInt ≤ M) (hy : -(N : Int) ≤ y.toInt ∧ y.toInt ≤ N) (h : M * N < 2 ^ 62) : (x * y).toInt = x.toInt * y.toInt ∧ -((M * N : Nat) : Int) ≤ (x * y).toInt ∧ (x * y).toInt ≤ ((M * N : Nat) : Int) := by
  have hb := mul_bd hx hy
  have e : (x * y).toInt = x.toInt * y.toInt := by
    rw [Int64.toInt_mul]
    generalize x.toInt * y.toInt = p at hb ⊢
    generalize M * N = q at hb h
    rw [Int.bmod_def]
    omega
  rw [e]
  exact ⟨rfl, hb⟩
theorem i32_bd {x : Int32} {M : Nat} (h : -(M : Int) ≤ x.toInt ∧ x.toInt ≤ M) : -(M : Int) ≤ x.toInt64.toInt ∧ x.toInt64.toInt ≤ M := by
  rw [Int32.toInt_toInt64]
  exact h
/-- what a grain sends, by step -/
def gwt (g s : Int32) : Int64 := if g = -1 then 0 else g.toInt64 * s.toInt64
theorem gwt_bd {g s : Int32} (hg : g = -1 ∨ ∃ n, n ≤ 255 ∧ g = nI n) (hs : ∃ n, n ≤ 100000 ∧ s = nI n) : -((25500000 : Nat) : Int) ≤ (gwt g s).toInt ∧ (gwt g s).toInt ≤ ((25500000 : Nat) : Int) := by
  unfold gwt
  by_cases c : g = -1
  · rw [if_pos c]; decide
  · rw [if_neg c]
    obtain ⟨n, hn, rfl⟩ := hg.resolve_left c
    obtain ⟨m, hm, rfl⟩ := hs
    have := (mul64 (M := 255) (N := 100000) (i32_bd (x := nI n) (by rw [nI_toInt (by omega)]; omega)) (i32_bd (x := nI m) (by rw [nI_toInt (by omega)]; omega)) (by decide)).2
    exact this
set_option maxHeartbeats 1000000 in
theorem u_weight {p q : Nat} {g : Int32} {σ : gT} {k : Int64 → gT → Prop} (hq : q < 16) (hs : σ.1 17 p q = gshw g) (h : k (gwt g (σ.1 3 p 2)) σ) : wX3_weight p (nI q) σ k := by
  unfold wX3_weight
  rw [nI_clamp (show q < 2 ^ 31 by omega), hs]
  unfold gwt at h
  unfold gshw
  refine ⟨vp_in_nI hq (by decide), ?_⟩
  by_cases c : g = -1
  · rw [if_pos c] at h
    rw [if_pos c, show (0 : Int32).toInt64 = 0 from rfl, Int64.zero_mul]
    exact h
  · rw [if_neg c] at h
    rw [if_neg c]
    exact h
theorem v_sends {p q : Nat} {g s : Int32} {σ : gT} {k : Int64 → gT → Prop} (hp : p < 6) (hq : q < 16) (hg : σ.1 37 0 (16 * p + q) = g) (hs : σ.1 36 0 p = s) : wX10_sends (nI p) (nI q) σ k ↔ k (gwt g s) σ := by
  unfold wX10_sends gwt
  rw [ix16, nI_clamp (show 16 * p + q < 2 ^ 31 by omega), nI_clamp (show p < 2 ^ 31 by omega), hg, hs]
  have v1 : vp_in (nI (16 * p + q)) 96 := vp_in_nI (by omega) (by decide)
  have v2 : vp_in (nI p) 6 := vp_in_nI hp (by decide)
  by_cases c : g = -1
  · rw [if_pos c]; exact ⟨fun z => z.2.2 c, fun z => ⟨v1, fun y => absurd c y, fun _ => z⟩⟩
  · rw [if_neg c]; exact ⟨fun z => (z.2.1 c).2.2, fun z => ⟨v1, fun _ => ⟨v1, v2, z⟩, fun y => absurd y c⟩⟩
set_option maxHeartbeats 1000000 in
theorem J_read (x1 x2 x3 : Int32) {σ : gT} (h : gR σ) : wX9_read x1 x2 x3 σ (fun r s1 => wX10_read x1 x2 x3 s1 (fun r2 s2 => r = r2 ∧ gR s2)) := by
  unfold wX9_read wX10_read wX9_found wX10_finding
  rcases ixc 6 (by decide) (x := x1) with c | ⟨p, hp, rfl⟩
  · simp only [u_isPlate_out c, v_isPlate_out c, if0, if0n, if1, if1n, true_implies, not_true_eq_false, not_false_eq_true, false_implies, and_true, true_and, implies_true]
    exact gR_thrown h
  have ep : (nI p).toNatClampNeg = p := nI_clamp (by omega)
  have vp : vp_in (nI p) 6 := vp_in_nI hp (by decide)
  simp only [u_isPlate_in hp, v_isPlate_in hp, if0, if0n, if1, if1n, true_implies, not_true_eq_false, not_false_eq_true, false_implies, and_true, true_and, implies_true, ep]
  rcases ixc 8 (by decide) (x := x2) with c | ⟨u, hu, rfl⟩
  · simp only [u_isWave_out c, v_isWave_out c, if0, if0n, if1, if1n, true_implies, not_true_eq_false, not_false_eq_true, false_implies, and_true, true_and, implies_true]
    exact gR_thrown h
  have eu : (nI u).toNatClampNeg = u := nI_clamp (by omega)
  have vu : vp_in (nI u) 8 := vp_in_nI hu (by decide)
  simp only [u_isWave_in hu, v_isWave_in hu, if0, if0n, if1, if1n, true_implies, not_true_eq_false, not_false_eq_true, false_implies, and_true, true_and, implies_true, eu]
  rcases ixc 8 (by decide) (x := x3) with c | ⟨w, hw, rfl⟩
  · simp only [u_isWave_out c, v_isWave_out c, if0, if0n, if1, if1n, true_implies, not_true_eq_false, not_false_eq_true, false_implies, and_true, true_and, implies_true]
    exact gR_thrown h
  have ew : (nI w).toNatClampNeg = w := nI_clamp (by omega)
  have vw : vp_in (nI w) 8 := vp_in_nI hw (by decide)
  simp only [u_isWave_in hw, v_isWave_in hw, if0, if0n, if1, if1n, true_implies, not_true_eq_false, not_false_eq_true, false_implies, and_true, true_and, implies_true]
  obtain ⟨p1, p2, p3, p6⟩ := h.2.2.1 p hp
  refine ⟨vp, ?_⟩
  by_cases m : σ.1 3 p 2 = 0
  · simp only [u_pmiss_y m, if0, if0n, if1, if1n, true_implies, not_true_eq_false, not_false_eq_true, false_implies, and_true, true_and, implies_true]
    refine ⟨vp, fun z => absurd ?_ z, fun _ => ⟨(by (repeat rw [gRs_su (by decide)]); exact h.1), (by (repeat rw [gRw_su (by decide)]); exact h.2.1), (by (repeat rw [gRp_su (by decide)]); exact h.2.2.1), (by (repeat rw [gRt_su (by decide)]); exact h.2.2.2.1), (by (repeat rw [gRa_su (by decide)]); exact h.2.2.2.2.1), (by (repeat rw [gRf_su (by decide)]); exact h.2.2.2.2.2.1), (by unfold gRz; simp (disch := decide) only [gsu_f, gsu_s, gsu_e])⟩⟩
    simp (disch := decide) only [gsu_f, gsu_s, gsu_e, gsl_f, gsl_g, gsl_s, gsl_e, gsu_g]
    rw [p1, m]
  simp only [u_pmiss_n m, if0, if0n, if1, if1n, true_implies, not_true_eq_false, not_false_eq_true, false_implies, and_true, true_and, implies_true]
  refine ⟨vu, ?_⟩
  generalize hA : (fun q => gwt (gpg σ p q) (σ.1 3 p 2) * (σ.1 23 u q).toInt64) = A
  generalize hB : (fun q => gwt (gpg σ p q) (σ.1 3 p 2) * (σ.1 24 u q).toInt64) = B
  have hsm : gsm A B := by
    intro q hq
    have b0 := gwt_bd (p3 q hq).2 p2
    obtain ⟨-, -, w1, w2⟩ := h.2.1 u hu q hq
    have b1 := (mul64 (N := 1000000) b0 (i32_bd (M := 1000000) w1) (by decide)).2
    have b2 := (mul64 (N := 1000000) b0 (i32_bd (M := 1000000) w2) (by decide)).2
    rw [← hA, ← hB]
    dsimp only
    constructor
    · have := b1.1; have e : ((25500000 * 1000000 : Nat) : Int) = 25500000000000 := by decide
      omega
    · have := b2.1; have e : ((25500000 * 1000000 : Nat) : Int) = 25500000000000 := by decide
      omega
  have U : ∀ (k : Int32 → gT → Prop), (gfit A B → k 1 (gsu (gw9 (gd2 σ 12 13 A B 16) w A B 16) 9 0 10 0)) → (¬ gfit A B → k (-1000003) (gd2 σ 12 13 A B 16)) → ∃ n, wX9_read_57 k n (nI w) p u 0 σ := by
    intro k hy hn
    have key : ∀ m j, j + m = 16 → wX9_read_57 k (m + 1) (nI w) p u (nI j) (gd2 σ 12 13 A B j) := by
      intro m
      induction m with
      | zero =>
        intro j hj
        have hz : j = 16 := by omega
        subst hz
        unfold wX9_read_57 wX9_fine
        rw [ew]
        exact ⟨fun _ => ⟨vw, u_settle (A := A) (B := B) (fun q hq => gd2_at (by decide) hq) hsm (fun hf => ⟨fun z => absurd z (by decide), fun _ => hy hf⟩) (fun hf => ⟨fun _ => hn hf, fun z => absurd rfl z⟩)⟩, fun z => absurd (by decide) z⟩
      | succ m ih =>
        intro j hj
        have hq := ih (j + 1) (by omega)
        have v : vp_in (nI j) 16 := vp_in_nI (by omega) (by decide)
        unfold wX9_read_57 wX1_put
        rw [nI_clamp (show j < 2 ^ 31 by omega), nI_1]
        refine ⟨fun z => absurd z (nI_ge (b := 16) (by omega) (by decide)), fun _ => u_weight (by omega) (p6.2 j (by omega)) ⟨v, u_weight (by omega) (p6.2 j (by omega)) ⟨v, v, v, ?_⟩⟩⟩
        have e := gd2_s (σ := σ) (f := 12) (f2 := 13) (n := j) (A := A) (B := B) (by decide)
        simp only [gd2_1]
        have ea : gwt (gpg σ p j) (σ.1 3 p 2) * (σ.1 23 u j).toInt64 = A j := by rw [← hA]
        have eb : gwt (gpg σ p j) (σ.1 3 p 2) * (σ.1 24 u j).toInt64 = B j := by rw [← hB]
        rw [ea, eb, e]
        exact hq
    have := key 16 0 rfl
    rw [gd2_0] at this
    exact ⟨17, this⟩
  have V : ∀ (τ : gT) (k : Int32 → gT → Prop), (∀ a b c, a = 31 ∨ a = 32 ∨ a = 36 ∨ a = 37 → u = u → (gd2 τ 33 34 A B 0).1 a b c = τ.1 a b c) → (∀ q, q < 16 → τ.1 31 0 (16 * u + q) = σ.1 23 u q ∧ τ.1 32 0 (16 * u + q) = σ.1 24 u q ∧ τ.1 37 0 (16 * p + q) = gpg σ p q) → τ.1 36 0 p = σ.1 3 p 2 → (gfit A B → k 1 (gsu (gw10 (gd2 τ 33 34 A B 16) w A B 16) 10 0 1 0)) → (¬ gfit A B → k (-1000003) (gd2 τ 33 34 A B 16)) → ∃ n, wX10_read_47 k n (nI p) (nI u) (nI w) 0 τ := by
    intro τ k _ hτ hs hy hn
    have key : ∀ m j, j + m = 16 → wX10_read_47 k (m + 1) (nI p) (nI u) (nI w) (nI j) (gd2 τ 33 34 A B j) := by
      intro m
      induction m with
      | zero =>
        intro j hj
        have hz : j = 16 := by omega
        subst hz
        unfold wX10_read_47
        exact ⟨fun _ => v_isMade (A := A) (B := B) hw (fun q hq => gd2_at (by decide) hq) (fun hf => ⟨fun _ => hy hf, fun z => absurd z (by decide)⟩) (fun hf => ⟨fun z => absurd rfl z, fun _ => hn hf⟩), fun z => absurd (by decide) z⟩
      | succ m ih =>
        intro j hj
        have hq := ih (j + 1) (by omega)
        have v : vp_in (nI j) 16 := vp_in_nI (by omega) (by decide)
        have v2 : vp_in (nI (16 * u + j)) 128 := vp_in_nI (by omega) (by decide)
        obtain ⟨t1, t2, t3⟩ := hτ j (by omega)
        unfold wX10_read_47
        rw [ix16, nI_clamp (show j < 2 ^ 31 by omega), nI_clamp (show 16 * u + j < 2 ^ 31 by omega), nI_1]
        refine ⟨fun z => absurd z (nI_ge (b := 16) (by omega) (by decide)), fun _ => (v_sends (σ := gd2 τ 33 34 A B j) hp (by omega) t3 hs).mpr ⟨v2, v, (v_sends (σ := gsl (gd2 τ 33 34 A B j) 33 0 j _) hp (by omega) t3 hs).mpr ⟨v2, v, ?_⟩⟩⟩
        have e := gd2_s (σ := τ) (f := 33) (f2 := 34) (n := j) (A := A) (B := B) (by decide)
        simp only [gsl_f, gd2_1]
        have ea : gwt (gpg σ p j) (σ.1 3 p 2) * (σ.1 23 u j).toInt64 = A j := by rw [← hA]
        have eb : gwt (gpg σ p j) (σ.1 3 p 2) * (σ.1 24 u j).toInt64 = B j := by rw [← hB]
        rw [t1, t2, ea, eb, e]
        exact hq
    have := key 16 0 rfl
    rw [gd2_0] at this
    exact ⟨17, this⟩
  have kb : gR (gsu σ 10 0 0 0) := gR_thrown h
  have hR : ∀ q, q < 16 → σ.1 31 0 (16 * u + q) = σ.1 23 u q ∧ σ.1 32 0 (16 * u + q) = σ.1 24 u q ∧ σ.1 37 0 (16 * p + q) = gpg σ p q := fun q hq => ⟨(h.2.1 u hu q hq).1, (h.2.1 u hu q hq).2.1, (p3 q hq).1⟩
  refine U _ (fun hf => ?_) (fun hf => ?_)
  · refine ⟨vp, fun _ => V _ _ (fun _ _ _ _ _ => rfl) (fun q hq => ?_) ?_ (fun _ => ⟨rfl, gR_fin0 h hw hf⟩) (fun z => absurd hf z), fun z => absurd ?_ m⟩
    · simp (disch := decide) only [gsu_f, gsu_s, gsu_e, gsl_f, gsl_g, gsl_s, gsl_e, gsu_g, gw9_f, gd2_1]
      exact hR q hq
    · simp (disch := decide) only [gsu_f, gsu_s, gsu_e, gsl_f, gsl_g, gsl_s, gsl_e, gsu_g, gw9_f, gd2_1]
      exact p1
    · simp (disch := decide) only [gsu_f, gsu_s, gsu_e, gsl_f, gsl_g, gsl_s, gsl_e, gsu_g, gw9_f, gd2_1] at z
      rw [← p1]; exact z
  · refine ⟨vp, fun _ => V _ _ (fun _ _ _ _ _ => rfl) (fun q hq => ?_) ?_ (fun z => absurd z hf) (fun _ => ⟨rfl, kb⟩), fun z => absurd ?_ m⟩
    · simp (disch := decide) only [gsu_f, gsu_s, gsu_e, gsl_f, gsl_g, gsl_s, gsl_e, gsu_g, gd2_1]
      exact hR q hq
    · simp (disch := decide) only [gsu_f, gsu_s, gsu_e, gsl_f, gsl_g, gsl_s, gsl_e, gsu_g, gd2_1]
      exact p1
    · simp (disch := decide) only [gsu_f, gsu_s, gsu_e, gsl_f, gsl_g, gsl_s, gsl_e, gsu_g, gd2_1] at z
      rw [← p1]; exact z
