/-! PURE: off -/
set_option maxHeartbeats 1000000 in
theorem J_off (x1 x2 : Int32) {σ : gT} (h : gR σ) : wX9_off x1 x2 σ (fun r s1 => wX10_off x1 x2 s1 (fun r2 s2 => r = r2 ∧ gR s2)) := by
  unfold wX9_off wX10_off
  rcases ixc 3 (by decide) (x := x1) with c | ⟨p, hp, rfl⟩
  · have h2 : ∀ (σ : gT) (k : Int32 → gT → Prop), wX10_in x1.toInt64 (0 : Int64) (2 : Int64) σ k ↔ k 0 σ := fun σ k => v_outN (N := 3) (by decide) (by decide) rfl c
    simp only [u_below_out (b := 3) c, h2, if0, if0n, if1, if1n, true_implies, not_true_eq_false, not_false_eq_true, false_implies, and_true, true_and, implies_true]
    exact gR_thrown h
  have h1 : ∀ (σ : gT) (k : Int32 → gT → Prop), wX9_below (nI p) (3 : Int32) σ k ↔ k 1 σ := fun σ k => u_below_in (N := 3) hp (by decide)
  have h2 : ∀ (σ : gT) (k : Int32 → gT → Prop), wX10_in (nI p).toInt64 (0 : Int64) (2 : Int64) σ k ↔ k 1 σ := fun σ k => v_inN (N := 3) hp (by decide) rfl
  simp only [h1, h2, if0, if0n, if1, if1n, true_implies, not_true_eq_false, not_false_eq_true, false_implies, and_true, true_and, implies_true]
  rcases ixc 8 (by decide) (x := x2) with c | ⟨w, hw, rfl⟩
  · simp only [u_isWave_out c, v_isWave_out c, if0, if0n, if1, if1n, true_implies, not_true_eq_false, not_false_eq_true, false_implies, and_true, true_and, implies_true]
    exact gR_thrown h
  have ew : (nI w).toNatClampNeg = w := nI_clamp (by omega)
  have vw : vp_in (nI w) 8 := vp_in_nI hw (by decide)
  simp only [u_isWave_in hw, v_isWave_in hw, if0, if0n, if1, if1n, true_implies, not_true_eq_false, not_false_eq_true, false_implies, and_true, true_and, implies_true]
  have hP := h.2.2.1
  have vpj : ∀ j, j < 4 → vp_in (nI (p + j)) 6 := fun j hj => vp_in_nI (by omega) (by decide)
  have epj : ∀ j, j < 4 → (nI (p + j)).toNatClampNeg = p + j := fun j hj => nI_clamp (by omega)
  have vp : vp_in (nI p) 6 := vp_in_nI (by omega) (by decide)
  have ep : (nI p).toNatClampNeg = p := nI_clamp (by omega)
  have a1 : nI p + 1 = nI (p + 1) := nI_1 p
  have a2 : nI p + 2 = nI (p + 2) := by rw [show (2 : Int32) = nI 2 from rfl, nI_add]
  have a3 : nI p + 3 = nI (p + 3) := by rw [show (3 : Int32) = nI 3 from rfl, nI_add]
  generalize hA : (fun q => gwt (gpg σ p q) (σ.1 3 p 2) - gwt (gpg σ (p + 2) q) (σ.1 3 (p + 2) 2)) = A
  generalize hB : (fun q => gwt (gpg σ (p + 1) q) (σ.1 3 (p + 1) 2) - gwt (gpg σ (p + 3) q) (σ.1 3 (p + 3) 2)) = B
  have hsm : gsm A B := by
    intro q hq
    have g := fun i (hi : i < 6) => gwt_bd ((hP i hi).2.2.1 q hq).2 (hP i hi).2.1
    have r1 := (sub64 (g p (by omega)) (g (p + 2) (by omega)) (by decide)).1
    have r2 := (sub64 (g (p + 1) (by omega)) (g (p + 3) (by omega)) (by decide)).1
    rw [← hA, ← hB]
    exact ⟨Int.le_trans (by decide) r1, Int.le_trans (by decide) r2⟩
  have U3 : ∀ (k : Int32 → gT → Prop), (gfit A B → k 1 (gsu (gw9 (gd2 σ 12 13 A B 16) w A B 16) 9 0 10 0)) → (¬ gfit A B → k (-1000003) (gd2 σ 12 13 A B 16)) → ∃ n, wX9_off_106 k n (nI p) (nI w) 0 σ := by
    intro k hy hn
    have key := gloop (N := 16) (fun m j => wX9_off_106 k m (nI p) (nI w) (nI j) (gd2 σ 12 13 A B j)) (by
      unfold wX9_off_106 wX9_fine
      rw [ew]
      exact ⟨fun _ => ⟨vw, u_settle (A := A) (B := B) (fun q hq => gd2_at (by decide) hq) hsm (fun hf => ⟨fun z => absurd z (by decide), fun _ => hy hf⟩) (fun hf => ⟨fun _ => hn hf, fun z => absurd rfl z⟩)⟩, fun z => absurd (by decide) z⟩) (by
      intro n j hj hq
      have v : vp_in (nI j) 16 := vp_in_nI hj (by decide)
      have g := fun i (hi : i < 6) => (hP i hi).2.2.2.2 j hj
      unfold wX9_off_106 wX1_put
      rw [a1, a2, a3, ep, epj 1 (by decide), epj 2 (by decide), epj 3 (by decide), nI_clamp (show j < 2 ^ 31 by omega), nI_1]
      refine ⟨fun z => absurd z (nI_ge (b := 16) hj (by decide)), fun _ => ⟨vp, u_weight hj (g p (by omega)) ⟨vpj 2 (by decide), u_weight hj (g (p + 2) (by omega)) ⟨vpj 1 (by decide), u_weight hj (g (p + 1) (by omega)) ⟨vpj 3 (by decide), u_weight hj (g (p + 3) (by omega)) ⟨v, v, ?_⟩⟩⟩⟩⟩⟩
      have e := gd2_s (σ := σ) (f := 12) (f2 := 13) (n := j) (A := A) (B := B) (by decide)
      simp only [gd2_1]
      rw [← e, ← hA, ← hB] at hq
      rw [← hA, ← hB]
      exact hq)
    simp only [gd2_0] at key
    exact key
  have V3 : ∀ (τ : gT) (k : Int32 → gT → Prop), (∀ i j, i < 6 → j < 16 → τ.1 37 0 (16 * i + j) = gpg σ i j) → (∀ i, i < 6 → τ.1 36 0 i = σ.1 3 i 2) → (gfit A B → k 1 (gsu (gw10 (gd2 τ 33 34 A B 16) w A B 16) 10 0 1 0)) → (¬ gfit A B → k (-1000003) (gd2 τ 33 34 A B 16)) → ∃ n, wX10_off_102 k n (nI p) (nI w) 0 τ := by
    intro τ k t1 t2 hy hn
    have key := gloop (N := 16) (fun m j => wX10_off_102 k m (nI p) (nI w) (nI j) (gd2 τ 33 34 A B j)) (by
      unfold wX10_off_102
      exact ⟨fun _ => v_isMade (A := A) (B := B) hw (fun q hq => gd2_at (by decide) hq) (fun hf => ⟨fun _ => hy hf, fun z => absurd z (by decide)⟩) (fun hf => ⟨fun z => absurd rfl z, fun _ => hn hf⟩), fun z => absurd (by decide) z⟩) (by
      intro n j hj hq
      have v : vp_in (nI j) 16 := vp_in_nI hj (by decide)
      unfold wX10_off_102
      rw [a1, a2, a3, nI_clamp (show j < 2 ^ 31 by omega), nI_1]
      have s : ∀ (i : Nat), i < 6 → ∀ {ρ : gT} {k : Int64 → gT → Prop}, ρ.1 = τ.1 → k (gwt (gpg σ i j) (σ.1 3 i 2)) ρ → wX10_sends (nI i) (nI j) ρ k := by
        intro i hi ρ k hρ hk
        exact (v_sends hi hj (by rw [hρ]; exact t1 i j hi hj) (by rw [hρ]; exact t2 i hi)).mpr hk
      refine ⟨fun z => absurd z (nI_ge (b := 16) hj (by decide)), fun _ => s p (by omega) (by rfl) (s (p + 2) (by omega) (by rfl) ⟨v, s (p + 1) (by omega) (by rfl) (s (p + 3) (by omega) (by rfl) ⟨v, ?_⟩)⟩)⟩
      have e := gd2_s (σ := τ) (f := 33) (f2 := 34) (n := j) (A := A) (B := B) (by decide)
      rw [← e, ← hA, ← hB] at hq
      rw [← hA, ← hB]
      exact hq)
    simp only [gd2_0] at key
    exact key
  have U2 : ∀ (k : Int32 → gT → Prop), ((∀ j, j < 4 → gct (fun q => decide (gpg σ (p + j) q = -1)) 16 = 0 ∧ σ.1 3 (p + j) 2 = σ.1 3 p 2) → ∃ n, wX9_off_106 k n (nI p) (nI w) 0 σ) → ((¬ ∀ j, j < 4 → gct (fun q => decide (gpg σ (p + j) q = -1)) 16 = 0 ∧ σ.1 3 (p + j) 2 = σ.1 3 p 2) → k (-1000002) σ) → ∃ n, wX9_off_53 k n (nI p) (nI w) 0 σ := by
    intro k hy hn
    have key := gloop (N := 4) (fun m i => (∀ j, j < i → gct (fun q => decide (gpg σ (p + j) q = -1)) 16 = 0 ∧ σ.1 3 (p + j) 2 = σ.1 3 p 2) → wX9_off_53 k m (nI p) (nI w) (nI i) σ) (by
      intro ha
      unfold wX9_off_53
      exact ⟨fun _ => hy ha, fun z => absurd (by decide) z⟩) (by
      intro n i hi ih ha
      unfold wX9_off_53
      rw [nI_add, nI_1, epj i hi, ep]
      have l0 := u_lost0 (hP (p + i) (by omega)).2.2.2
      refine ⟨fun z => absurd z (nI_ge (b := 4) hi (by decide)), fun _ => ⟨vpj i hi, fun c => hn (fun z => c (l0.mpr (z i hi).1)), fun c => ⟨vpj i hi, vp, fun c2 => ih (fun j hj => ?_), fun c2 => hn (fun z => c2 (z i hi).2)⟩⟩⟩
      rcases Nat.lt_or_ge j i with y | y
      · exact ha j y
      · have hz : j = i := by omega
        subst hz
        exact ⟨l0.mp c, c2⟩)
    obtain ⟨n, key⟩ := key
    exact ⟨n, key (fun j hj => absurd hj (Nat.not_lt_zero j))⟩
  have V2 : ∀ (τ : gT) (k : Int32 → gT → Prop), (∀ i j, i < 6 → j < 16 → τ.1 37 0 (16 * i + j) = gpg σ i j) → (∀ i, i < 6 → τ.1 36 0 i = σ.1 3 i 2) → ((∀ j, j < 4 → gct (fun q => decide (gpg σ (p + j) q = -1)) 16 = 0 ∧ σ.1 3 (p + j) 2 = σ.1 3 p 2) → ∃ n, wX10_off_102 k n (nI p) (nI w) 0 τ) → ((¬ ∀ j, j < 4 → gct (fun q => decide (gpg σ (p + j) q = -1)) 16 = 0 ∧ σ.1 3 (p + j) 2 = σ.1 3 p 2) → k (-1000002) τ) → ∃ n, wX10_off_59 k n (nI p) (nI w) 0 τ := by
    intro τ k t1 t2 hy hn
    have key := gloop (N := 4) (fun m i => (∀ j, j < i → gct (fun q => decide (gpg σ (p + j) q = -1)) 16 = 0 ∧ σ.1 3 (p + j) 2 = σ.1 3 p 2) → wX10_off_59 k m (nI p) (nI w) (nI i) τ) (by
      intro ha
      unfold wX10_off_59
      exact ⟨fun _ => hy ha, fun z => absurd (by decide) z⟩) (by
      intro n i hi ih ha
      unfold wX10_off_59
      rw [nI_add, nI_1, epj i hi, ep]
      have hl := gct_le (fun q => decide (gpg σ (p + i) q = -1)) 16
      refine ⟨fun z => absurd z (nI_ge (b := 4) hi (by decide)), fun _ => v_lostOn (g := gpg σ (p + i)) (by omega) (fun q hq => t1 (p + i) q (by omega) hq) ⟨fun c => hn (fun z => ?_), fun c => ⟨vpj i hi, vp, ?_⟩⟩⟩
      · rw [(z i hi).1] at c; exact absurd c (by decide)
      · rw [t2 (p + i) (by omega), t2 p (by omega)]
        refine ⟨fun c2 => ih (fun j hj => ?_), fun c2 => hn (fun z => c2 (z i hi).2)⟩
        rcases Nat.lt_or_ge j i with y | y
        · exact ha j y
        · have hz : j = i := by omega
          subst hz
          rw [fa_lt, nI_toInt (by omega)] at c
          have c : ¬ (0 : Int) < (gct (fun q => decide (gpg σ (p + j) q = -1)) 16 : Int) := c
          exact ⟨by omega, c2⟩)
    obtain ⟨n, key⟩ := key
    exact ⟨n, key (fun j hj => absurd hj (Nat.not_lt_zero j))⟩
  have U1 : ∀ (k : Int32 → gT → Prop), ((∀ j, j < 4 → ¬ σ.1 3 (p + j) 2 = 0) → ∃ n, wX9_off_53 k n (nI p) (nI w) 0 σ) → ((¬ ∀ j, j < 4 → ¬ σ.1 3 (p + j) 2 = 0) → k (-1000011) (gsu σ 9 0 10 1)) → ∃ n, wX9_off_20 k n (nI p) (nI w) 0 σ := by
    intro k hy hn
    have key := gloop (N := 4) (fun m i => (∀ j, j < i → ¬ σ.1 3 (p + j) 2 = 0) → wX9_off_20 k m (nI p) (nI w) (nI i) σ) (by
      intro ha
      unfold wX9_off_20
      exact ⟨fun _ => hy ha, fun z => absurd (by decide) z⟩) (by
      intro n i hi ih ha
      unfold wX9_off_20 wX9_found
      rw [nI_add, nI_1, epj i hi]
      refine ⟨fun z => absurd z (nI_ge (b := 4) hi (by decide)), fun _ => ⟨vpj i hi, ?_⟩⟩
      by_cases c : σ.1 3 (p + i) 2 = 0
      · rw [u_pmiss_y c]
        exact ⟨fun z => absurd z (by decide), fun _ => hn (fun z => z i hi c)⟩
      · rw [u_pmiss_n c]
        refine ⟨fun _ => ih (fun j hj => ?_), fun z => absurd rfl z⟩
        rcases Nat.lt_or_ge j i with y | y
        · exact ha j y
        · have hz : j = i := by omega
          subst hz
          exact c)
    obtain ⟨n, key⟩ := key
    exact ⟨n, key (fun j hj => absurd hj (Nat.not_lt_zero j))⟩
  have V1 : ∀ (τ : gT) (k : Int32 → gT → Prop), (∀ i, i < 6 → τ.1 36 0 i = σ.1 3 i 2) → ((∀ j, j < 4 → ¬ σ.1 3 (p + j) 2 = 0) → ∃ n, wX10_off_59 k n (nI p) (nI w) 0 τ) → ((¬ ∀ j, j < 4 → ¬ σ.1 3 (p + j) 2 = 0) → k (-1000011) (gsu τ 10 0 1 1)) → ∃ n, wX10_off_29 k n (nI p) (nI w) 0 τ := by
    intro τ k t2 hy hn
    have key := gloop (N := 4) (fun m i => (∀ j, j < i → ¬ σ.1 3 (p + j) 2 = 0) → wX10_off_29 k m (nI p) (nI w) (nI i) τ) (by
      intro ha
      unfold wX10_off_29
      exact ⟨fun _ => hy ha, fun z => absurd (by decide) z⟩) (by
      intro n i hi ih ha
      unfold wX10_off_29 wX10_finding
      rw [nI_add, nI_1, epj i hi, t2 (p + i) (by omega)]
      refine ⟨fun z => absurd z (nI_ge (b := 4) hi (by decide)), fun _ => ⟨vpj i hi, fun c => ih (fun j hj => ?_), fun c => hn (fun z => z i hi c)⟩⟩
      rcases Nat.lt_or_ge j i with y | y
      · exact ha j y
      · have hz : j = i := by omega
        subst hz
        exact c)
    obtain ⟨n, key⟩ := key
    exact ⟨n, key (fun j hj => absurd hj (Nat.not_lt_zero j))⟩
  have kb : gR (gsu σ 10 0 0 0) := gR_thrown h
  have r1 : ∀ i j, i < 6 → j < 16 → σ.1 37 0 (16 * i + j) = gpg σ i j := fun i j hi hj => ((hP i hi).2.2.1 j hj).1
  have r2 : ∀ i, i < 6 → σ.1 36 0 i = σ.1 3 i 2 := fun i hi => (hP i hi).1
  refine U1 _ (fun ha => U2 _ (fun hb => U3 _ (fun hf => ?_) (fun hf => ?_)) (fun hb => ?_)) (fun ha => ?_)
  · have t2 : ∀ i, i < 6 → (gsu (gsu (gw9 (gd2 σ 12 13 A B 16) w A B 16) 9 0 10 0) 10 0 0 0).1 36 0 i = σ.1 3 i 2 := fun i hi => by
      simp (disch := decide) only [gsu_f, gsu_s, gsu_e, gsl_f, gsl_g, gsl_s, gsl_e, gsu_g, gw9_f, gd2_1]
      exact r2 i hi
    have t1 : ∀ i j, i < 6 → j < 16 → (gsu (gsu (gw9 (gd2 σ 12 13 A B 16) w A B 16) 9 0 10 0) 10 0 0 0).1 37 0 (16 * i + j) = gpg σ i j := fun i j hi hj => by
      simp (disch := decide) only [gsu_f, gsu_s, gsu_e, gsl_f, gsl_g, gsl_s, gsl_e, gsu_g, gw9_f, gd2_1]
      exact r1 i j hi hj
    exact V1 _ _ t2 (fun _ => V2 _ _ t1 t2 (fun _ => V3 _ _ t1 t2 (fun _ => ⟨rfl, gR_fin0 h hw hf⟩) (fun z => absurd hf z)) (fun z => absurd hb z)) (fun z => absurd ha z)
  · have t2 : ∀ i, i < 6 → (gsu (gd2 σ 12 13 A B 16) 10 0 0 0).1 36 0 i = σ.1 3 i 2 := fun i hi => by
      simp (disch := decide) only [gsu_f, gsu_s, gsu_e, gsl_f, gsl_g, gsl_s, gsl_e, gsu_g, gd2_1]
      exact r2 i hi
    have t1 : ∀ i j, i < 6 → j < 16 → (gsu (gd2 σ 12 13 A B 16) 10 0 0 0).1 37 0 (16 * i + j) = gpg σ i j := fun i j hi hj => by
      simp (disch := decide) only [gsu_f, gsu_s, gsu_e, gsl_f, gsl_g, gsl_s, gsl_e, gsu_g, gd2_1]
      exact r1 i j hi hj
    exact V1 _ _ t2 (fun _ => V2 _ _ t1 t2 (fun _ => V3 _ _ t1 t2 (fun z => absurd z hf) (fun _ => ⟨rfl, kb⟩)) (fun z => absurd hb z)) (fun z => absurd ha z)
  · have t2 : ∀ i, i < 6 → (gsu σ 10 0 0 0).1 36 0 i = σ.1 3 i 2 := fun i hi => by
      simp (disch := decide) only [gsu_f, gsu_s, gsu_e, gsl_f, gsl_g, gsl_s, gsl_e, gsu_g]
      exact r2 i hi
    have t1 : ∀ i j, i < 6 → j < 16 → (gsu σ 10 0 0 0).1 37 0 (16 * i + j) = gpg σ i j := fun i j hi hj => by
      simp (disch := decide) only [gsu_f, gsu_s, gsu_e, gsl_f, gsl_g, gsl_s, gsl_e, gsu_g]
      exact r1 i j hi hj
    exact V1 _ _ t2 (fun _ => V2 _ _ t1 t2 (fun z => absurd z hb) (fun _ => ⟨rfl, kb⟩)) (fun z => absurd ha z)
  · have t2 : ∀ i, i < 6 → (gsu (gsu σ 9 0 10 1) 10 0 0 0).1 36 0 i = σ.1 3 i 2 := fun i hi => by
      simp (disch := decide) only [gsu_f, gsu_s, gsu_e, gsl_f, gsl_g, gsl_s, gsl_e, gsu_g]
      exact r2 i hi
    exact V1 _ _ t2 (fun z => absurd z ha) (fun _ => ⟨rfl, (by (repeat rw [gRs_su (by decide)]); exact h.1), (by (repeat rw [gRw_su (by decide)]); exact h.2.1), (by (repeat rw [gRp_su (by decide)]); exact h.2.2.1), (by (repeat rw [gRt_su (by decide)]); exact h.2.2.2.1), (by (repeat rw [gRa_su (by decide)]); exact h.2.2.2.2.1), (by (repeat rw [gRf_su (by decide)]); exact h.2.2.2.2.2.1), (by unfold gRz; simp (disch := decide) only [gsu_f, gsu_s, gsu_e])⟩)
