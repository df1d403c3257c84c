/-! PURE: what two sides' writes of one wave leave; lay -/
theorem gd2_1 {σ : gT} {f f2 n : Nat} {A B : Nat → Int64} {a b c : Nat} : (gd2 σ f f2 A B n).1 a b c = σ.1 a b c := rfl
set_option maxHeartbeats 1000000 in
theorem gR_fin {σ τ : gT} {w : Nat} {A B : Nat → Int64} (h : gR σ) (hw : w < 8) (hf : gfit A B) (h1 : ∀ a b c, a ≠ 23 → a ≠ 24 → a ≠ 31 → a ≠ 32 → a ≠ 9 → a ≠ 10 → τ.1 a b c = σ.1 a b c) (h9 : τ.1 9 0 9 = σ.1 9 0 9) (h10 : ∀ c, c ≠ 0 → c ≠ 1 → τ.1 10 0 c = σ.1 10 0 c) (hz : τ.1 10 0 1 = τ.1 9 0 10)
    (h23 : ∀ v q, v < 8 → q < 16 → τ.1 23 v q = if v = w then (A q).toInt32 else σ.1 23 v q) (h24 : ∀ v q, v < 8 → q < 16 → τ.1 24 v q = if v = w then (B q).toInt32 else σ.1 24 v q) (h31 : ∀ v q, v < 8 → q < 16 → τ.1 31 0 (16 * v + q) = if v = w then (A q).toInt32 else σ.1 31 0 (16 * v + q)) (h32 : ∀ v q, v < 8 → q < 16 → τ.1 32 0 (16 * v + q) = if v = w then (B q).toInt32 else σ.1 32 0 (16 * v + q)) : gR τ := by
  refine ⟨(gRs_cong (fun a b c ha => h1 a b c (by omega) (by omega) (by omega) (by omega) (by omega) (by omega))).mpr h.1, gR_wave h hw hf h23 h24 h31 h32, (gRp_cong (fun a b c ha => h1 a b c (by omega) (by omega) (by omega) (by omega) (by omega) (by omega))).mpr h.2.2.1, ?_, ?_, ?_, hz⟩
  · obtain ⟨n, hn, a1, a2, a3⟩ := h.2.2.2.1
    refine ⟨n, hn, by rw [h1 7 _ _ (by decide) (by decide) (by decide) (by decide) (by decide) (by decide)]; exact a1, by rw [h10 10 (by decide) (by decide)]; exact a2, fun q hq => ?_⟩
    rw [h1 22 _ _ (by decide) (by decide) (by decide) (by decide) (by decide) (by decide), h1 35 _ _ (by decide) (by decide) (by decide) (by decide) (by decide) (by decide)]
    exact a3 q hq
  · obtain ⟨n, hn, a1, a2, a3⟩ := h.2.2.2.2.1
    refine ⟨n, hn, by rw [h1 0 _ _ (by decide) (by decide) (by decide) (by decide) (by decide) (by decide)]; exact a1, by rw [h10 24 (by decide) (by decide)]; exact a2, fun q hq => ?_⟩
    rw [h1 11 _ _ (by decide) (by decide) (by decide) (by decide) (by decide) (by decide), h1 38 _ _ (by decide) (by decide) (by decide) (by decide) (by decide) (by decide)]
    exact a3 q hq
  · unfold gRf
    rw [h9, h10 11 (by decide) (by decide)]
    exact h.2.2.2.2.2.1
/-- the same, for what read, lay, off leave: status 0 on both sides -/
theorem gR_fin0 {σ : gT} {w : Nat} {A B : Nat → Int64} (h : gR σ) (hw : w < 8) (hf : gfit A B) : gR (gsu (gw10 (gd2 (gsu (gsu (gw9 (gd2 σ 12 13 A B 16) w A B 16) 9 0 10 0) 10 0 0 0) 33 34 A B 16) w A B 16) 10 0 1 0) := by
  refine gR_fin h hw hf (fun a b c z1 z2 z3 z4 z5 z6 => ?_) ?_ (fun c z1 z2 => ?_) ?_ (fun v q hv hq => ?_) (fun v q hv hq => ?_) (fun v q hv hq => ?_) (fun v q hv hq => ?_)
  · rw [gsu_f z6, gw10_f z3 z4, gd2_1, gsu_f z6, gsu_f z5, gw9_f z1 z2, gd2_1]
  · rw [gsu_f (by decide), gw10_f (by decide) (by decide), gd2_1, gsu_f (by decide), gsu_s (by decide), gw9_f (by decide) (by decide), gd2_1]
  · rw [gsu_s z2, gw10_f (by decide) (by decide), gd2_1, gsu_s z1, gsu_f (by decide), gw9_f (by decide) (by decide), gd2_1]
  · rw [gsu_e, gsu_f (by decide), gw10_f (by decide) (by decide), gd2_1, gsu_f (by decide), gsu_e]
  · rw [gsu_f (by decide), gw10_f (by decide) (by decide), gd2_1, gsu_f (by decide), gsu_f (by decide), gw9_23 hq, gd2_1]
  · rw [gsu_f (by decide), gw10_f (by decide) (by decide), gd2_1, gsu_f (by decide), gsu_f (by decide), gw9_24 hq, gd2_1]
  · rw [gsu_f (by decide), gw10_31 hq, gd2_1, gsu_f (by decide), gsu_f (by decide), gw9_f (by decide) (by decide), gd2_1]
  · rw [gsu_f (by decide), gw10_32 hq, gd2_1, gsu_f (by decide), gsu_f (by decide), gw9_f (by decide) (by decide), gd2_1]
/-- the same, where status isn't touched (way, parts) -/
theorem gR_fin1 {σ : gT} {w : Nat} {A B : Nat → Int64} (h : gR σ) (hw : w < 8) (hf : gfit A B) : gR (gw10 (gd2 (gsu (gw9 (gd2 σ 12 13 A B 16) w A B 16) 10 0 0 0) 33 34 A B 16) w A B 16) := by
  refine gR_fin h hw hf (fun a b c z1 z2 z3 z4 z5 z6 => ?_) ?_ (fun c z1 z2 => ?_) ?_ (fun v q hv hq => ?_) (fun v q hv hq => ?_) (fun v q hv hq => ?_) (fun v q hv hq => ?_)
  · rw [gw10_f z3 z4, gd2_1, gsu_f z6, gw9_f z1 z2, gd2_1]
  · rw [gw10_f (by decide) (by decide), gd2_1, gsu_f (by decide), gw9_f (by decide) (by decide), gd2_1]
  · rw [gw10_f (by decide) (by decide), gd2_1, gsu_s z1, gw9_f (by decide) (by decide), gd2_1]
  · rw [gw10_f (by decide) (by decide), gd2_1, gsu_s (by decide), gw9_f (by decide) (by decide), gd2_1, gw10_f (by decide) (by decide), gd2_1, gsu_f (by decide), gw9_f (by decide) (by decide), gd2_1]
    exact h.2.2.2.2.2.2
  · rw [gw10_f (by decide) (by decide), gd2_1, gsu_f (by decide), gw9_23 hq, gd2_1]
  · rw [gw10_f (by decide) (by decide), gd2_1, gsu_f (by decide), gw9_24 hq, gd2_1]
  · rw [gw10_31 hq, gd2_1, gsu_f (by decide), gw9_f (by decide) (by decide), gd2_1]
  · rw [gw10_32 hq, gd2_1, gsu_f (by decide), gw9_f (by decide) (by decide), gd2_1]
theorem gR_d2 {σ : gT} {f f2 n : Nat} {A B : Nat → Int64} : gR (gd2 σ f f2 A B n) ↔ gR σ := Iff.rfl
theorem i32_sm (x : Int32) : -9000000000000000000 ≤ x.toInt64.toInt := by
  rw [Int32.toInt_toInt64]
  have := Int32.le_toInt x
  omega
theorem ix2 (i j : Nat) : nI i + ((2 : Int32) * nI j) = nI (i + 2 * j) := by rw [show (2 : Int32) = nI 2 from rfl, pk_mul, nI_add]
set_option maxHeartbeats 1000000 in
theorem u_lay_loop {w s i : Nat} {σ : gT} {k : Int32 → gT → Prop} (hw : w < 8) (hi : i + 32 ≤ 64) {A B : Nat → Int64} (hA : A = fun q => (σ.1 21 s (i + 2 * q)).toInt64) (hB : B = fun q => (σ.1 21 s (i + 2 * q + 1)).toInt64) (hy : gfit A B → k 1 (gsu (gw9 (gd2 σ 12 13 A B 16) w A B 16) 9 0 10 0)) (hn : ¬ gfit A B → k (-1000001) (gd2 σ 12 13 A B 16)) : ∃ n, wX9_lay_59 k n (nI w) (nI i) s 0 σ := by
  have ew : (nI w).toNatClampNeg = w := nI_clamp (by omega)
  have key : ∀ m j, j + m = 16 → wX9_lay_59 k (m + 1) (nI w) (nI i) s (nI j) (gd2 σ 12 13 A B j) := by
    intro m
    induction m with
    | zero =>
      intro j hj
      have hz : j = 16 := by omega
      subst hz
      unfold wX9_lay_59 wX9_fine
      rw [ew]
      refine ⟨fun _ => ⟨vp_in_nI hw (by decide), u_settle (A := A) (B := B) (fun q hq => gd2_at (by decide) hq) (fun q hq => ?_) (fun hf => ⟨fun z => absurd z (by decide), fun _ => hy hf⟩) (fun hf => ⟨fun _ => hn hf, fun z => absurd rfl z⟩)⟩, fun z => absurd (by decide) z⟩
      subst hA; subst hB
      exact ⟨i32_sm _, i32_sm _⟩
    | succ m ih =>
      intro j hj
      have hq := ih (j + 1) (by omega)
      have v : vp_in (nI j) 16 := vp_in_nI (by omega) (by decide)
      unfold wX9_lay_59 wX1_put
      rw [ix2, nI_1, nI_1, nI_clamp (show i + 2 * j < 2 ^ 31 by omega), nI_clamp (show i + 2 * j + 1 < 2 ^ 31 by omega), nI_clamp (show j < 2 ^ 31 by omega)]
      refine ⟨fun z => absurd z (nI_ge (b := 16) (by omega) (by decide)), fun _ => ⟨vp_in_nI (by omega) (by decide), vp_in_nI (by omega) (by decide), v, v, ?_⟩⟩
      have e := gd2_s (σ := σ) (f := 12) (f2 := 13) (n := j) (A := A) (B := B) (by decide)
      have ea : ((gd2 σ 12 13 A B j).1 21 s (i + 2 * j)).toInt64 = A j := by rw [hA]; rfl
      have eb : ((gd2 σ 12 13 A B j).1 21 s (i + 2 * j + 1)).toInt64 = B j := by rw [hB]; rfl
      rw [ea, eb, e]
      exact hq
  have := key 16 0 rfl
  rw [gd2_0] at this
  exact ⟨17, this⟩
set_option maxHeartbeats 1000000 in
theorem v_lay_loop {w s i : Nat} {σ : gT} {k : Int32 → gT → Prop} (hw : w < 8) (hs : s < 8) (hi : i + 32 ≤ 64) {A B : Nat → Int64} (hA : ∀ q, q < 16 → (σ.1 30 0 (64 * s + i + 2 * q)).toInt64 = A q) (hB : ∀ q, q < 16 → (σ.1 30 0 (64 * s + i + 2 * q + 1)).toInt64 = B q) (hy : gfit A B → k 1 (gsu (gw10 (gd2 σ 33 34 A B 16) w A B 16) 10 0 1 0)) (hn : ¬ gfit A B → k (-1000001) (gd2 σ 33 34 A B 16)) : ∃ n, wX10_lay_43 k n (nI w) (nI s) (nI i) 0 σ := by
  have key : ∀ m j, j + m = 16 → wX10_lay_43 k (m + 1) (nI w) (nI s) (nI i) (nI j) (gd2 σ 33 34 A B j) := by
    intro m
    induction m with
    | zero =>
      intro j hj
      have hz : j = 16 := by omega
      subst hz
      unfold wX10_lay_43
      exact ⟨fun _ => v_isMade (A := A) (B := B) hw (fun q hq => gd2_at (by decide) hq) (fun hf => ⟨fun _ => hy hf, fun z => absurd z (by decide)⟩) (fun hf => ⟨fun z => absurd rfl z, fun _ => hn hf⟩), fun z => absurd (by decide) z⟩
    | succ m ih =>
      intro j hj
      have hq := ih (j + 1) (by omega)
      have v : vp_in (nI j) 16 := vp_in_nI (by omega) (by decide)
      unfold wX10_lay_43
      rw [ix64, ix2, nI_1, nI_1, nI_clamp (show 64 * s + i + 2 * j < 2 ^ 31 by omega), nI_clamp (show 64 * s + i + 2 * j + 1 < 2 ^ 31 by omega), nI_clamp (show j < 2 ^ 31 by omega)]
      refine ⟨fun z => absurd z (nI_ge (b := 16) (by omega) (by decide)), fun _ => ⟨vp_in_nI (by omega) (by decide), v, vp_in_nI (by omega) (by decide), v, ?_⟩⟩
      have e := gd2_s (σ := σ) (f := 33) (f2 := 34) (n := j) (A := A) (B := B) (by decide)
      simp only [gsl_f, gd2_1]
      rw [hA j (by omega), hB j (by omega), e]
      exact hq
  have := key 16 0 rfl
  rw [gd2_0] at this
  exact ⟨17, this⟩
theorem sum_toInt (x m : Int32) : (x.toInt64 + m.toInt64).toInt = x.toInt + m.toInt := by
  rw [Int64.toInt_add, Int32.toInt_toInt64, Int32.toInt_toInt64, Int.bmod_def]
  have h1 := Int32.le_toInt x
  have h2 := Int32.toInt_lt x
  have h3 := Int32.le_toInt m
  have h4 := Int32.toInt_lt m
  omega
theorem v_items_m {s : Nat} {x m : Int32} {τ : gT} {k : Int32 → gT → Prop} (hs : s < 8) (h : ¬ 0 ≤ τ.1 28 0 s) : wX10_lookItems (nI s) x m τ k ↔ k (-1000011) (gsu τ 10 0 1 1) := by
  unfold wX10_lookItems wX10_finding
  rw [nI_clamp (show s < 2 ^ 31 by omega)]
  exact ⟨fun z => z.2.2 h, fun z => ⟨vp_in_nI hs (by decide), fun y => absurd y h, fun _ => z⟩⟩
theorem v_items_y {s n : Nat} {x m : Int32} {τ : gT} {k : Int32 → gT → Prop} (hs : s < 8) (h : 0 ≤ τ.1 28 0 s) (hn : n ≤ 64) (hz : τ.1 29 0 s = nI n) (hc : 0 ≤ x.toInt ∧ x.toInt + m.toInt ≤ n) : wX10_lookItems (nI s) x m τ k ↔ k 0 τ := by
  unfold wX10_lookItems
  rw [nI_clamp (show s < 2 ^ 31 by omega), hz, cmp_le0]
  have vs : vp_in (nI s) 8 := vp_in_nI hs (by decide)
  have c1 : ¬ x < 0 := by rw [fa_lt]; show ¬ x.toInt < 0; omega
  have c2 : x.toInt64 + m.toInt64 ≤ (nI n).toInt64 := by rw [fa_le64, sum_toInt, Int32.toInt_toInt64, nI_toInt (by omega)]; exact hc.2
  exact ⟨fun z => ((z.2.1 h).2 c1).2.1 c2, fun z => ⟨vs, fun _ => ⟨fun y => absurd y c1, fun _ => ⟨vs, fun _ => z, fun y => absurd c2 y⟩⟩, fun y => absurd h y⟩⟩
set_option maxHeartbeats 1000000 in
theorem v_items_n {s n : Nat} {x m : Int32} {τ : gT} {k : Int32 → gT → Prop} (hs : s < 8) (h : 0 ≤ τ.1 28 0 s) (hn : n ≤ 64) (hz : τ.1 29 0 s = nI n) (hc : ¬ (0 ≤ x.toInt ∧ x.toInt + m.toInt ≤ n)) : wX10_lookItems (nI s) x m τ k ↔ k (-1000012) (gsu τ 10 0 1 2) := by
  unfold wX10_lookItems wX10_lookItems_35 wX10_finding
  rw [nI_clamp (show s < 2 ^ 31 by omega), hz, cmp_le0]
  have vs : vp_in (nI s) 8 := vp_in_nI hs (by decide)
  by_cases c1 : x < 0
  · exact ⟨fun z => (z.2.1 h).1 c1, fun z => ⟨vs, fun _ => ⟨fun _ => z, fun y => absurd c1 y⟩, fun y => absurd h y⟩⟩
  · have c2 : ¬ x.toInt64 + m.toInt64 ≤ (nI n).toInt64 := by
      rw [fa_le64, sum_toInt, Int32.toInt_toInt64, nI_toInt (by omega)]
      rw [fa_lt] at c1
      have c1 : ¬ x.toInt < 0 := c1
      omega
    exact ⟨fun z => ((z.2.1 h).2 c1).2.2 c2, fun z => ⟨vs, fun _ => ⟨fun y => absurd y c1, fun _ => ⟨vs, fun y => absurd y c2, fun _ => z⟩⟩, fun y => absurd h y⟩⟩
set_option maxHeartbeats 1000000 in
theorem J_lay (x1 x2 x3 : Int32) {σ : gT} (h : gR σ) : wX9_lay x1 x2 x3 σ (fun r s1 => wX10_lay x1 x2 x3 s1 (fun r2 s2 => r = r2 ∧ gR s2)) := by
  unfold wX9_lay wX10_lay wX9_found
  rcases ixc 8 (by decide) (x := x1) with c | ⟨w, hw, rfl⟩
  · simp only [u_isWave_out c, v_isWave_out c, if0, if0n, if1, if1n, true_implies, not_true_eq_false, not_false_eq_true, false_implies, and_true, true_and, implies_true]
    exact gR_thrown h
  simp only [u_isWave_in hw, v_isWave_in hw, if0, if0n, if1, if1n, true_implies, not_true_eq_false, not_false_eq_true, false_implies, and_true, true_and, implies_true]
  rcases ixc 8 (by decide) (x := x2) with c | ⟨s, hs, rfl⟩
  · simp only [u_isSheet_out c, v_isSheet_out c, if0, if0n, if1, if1n, true_implies, not_true_eq_false, not_false_eq_true, false_implies, and_true, true_and, implies_true]
    exact gR_thrown h
  have es : (nI s).toNatClampNeg = s := nI_clamp (by omega)
  have vs : vp_in (nI s) 8 := vp_in_nI hs (by decide)
  simp only [u_isSheet_in hs, v_isSheet_in hs, if0, if0n, if1, if1n, true_implies, not_true_eq_false, not_false_eq_true, false_implies, and_true, true_and, implies_true, es]
  refine ⟨vs, ?_⟩
  obtain ⟨r1, r2⟩ := gRs_at h.1 hs
  rcases r2 with m | ⟨m, m2⟩
  · simp only [u_miss_y m, if0, if0n, if1, if1n, true_implies, not_true_eq_false, not_false_eq_true, false_implies, and_true, true_and, implies_true]
    rw [v_items_m hs (by simp (disch := decide) only [gsu_f, gsu_s, gsu_e, gsl_f, gsl_g, gsl_s, gsl_e, gsu_g]; rw [r1, m]; decide)]
    exact ⟨fun z => absurd z (by decide), fun _ => ⟨rfl, (by (repeat rw [gRs_su (by decide)]); exact h.1), (by (repeat rw [gRw_su (by decide)]); exact h.2.1), (by (repeat rw [gRp_su (by decide)]); exact h.2.2.1), (by (repeat rw [gRt_su (by decide)]); exact h.2.2.2.1), (by (repeat rw [gRa_su (by decide)]); exact h.2.2.2.2.1), (by (repeat rw [gRf_su (by decide)]); exact h.2.2.2.2.2.1), (by unfold gRz; simp (disch := decide) only [gsu_f, gsu_s, gsu_e])⟩⟩
  · simp only [u_miss_n m, if0, if0n, if1, if1n, true_implies, not_true_eq_false, not_false_eq_true, false_implies, and_true, true_and, implies_true]
    obtain ⟨n, hn, z1, z2⟩ := (h.1 s hs).2.2.1 m
    have e32 : (32 : Int32).toInt = 32 := by decide
    by_cases c : 0 ≤ x3.toInt ∧ x3.toInt + (32 : Int32).toInt ≤ n
    · rw [u_reach_y hn z1 ⟨c.1, by decide, c.2⟩]
      have c' := c
      obtain ⟨i, hi0, rfl⟩ := nI_of (x := x3) (by rw [fa_lt]; show ¬ x3.toInt < 0; omega)
      rw [nI_toInt hi0, e32] at c'
      simp only [if0, if0n, if1, if1n, true_implies, not_true_eq_false, not_false_eq_true, false_implies, and_true, true_and, implies_true]
      have hi : i + 32 ≤ 64 := by omega
      have q4 := (h.1 s hs).2.2.2
      have kb : gR (gsu σ 10 0 0 0) := gR_thrown h
      refine u_lay_loop hw hi rfl rfl (fun hf => ?_) (fun hf => ?_)
      · rw [v_items_y hs (by simp (disch := decide) only [gsu_f, gsu_s, gsu_e, gsl_f, gsl_g, gsl_s, gsl_e, gsu_g, gw9_f, gd2_1]; rw [r1]; exact m2) hn (by simp (disch := decide) only [gsu_f, gsu_s, gsu_e, gsl_f, gsl_g, gsl_s, gsl_e, gsu_g, gw9_f, gd2_1]; exact z2) c]
        refine ⟨fun _ => v_lay_loop hw hs hi (fun q hq => ?_) (fun q hq => ?_) (fun _ => ⟨rfl, gR_fin0 h hw hf⟩) (fun z => absurd hf z), fun z => absurd (by decide) z⟩
        · simp (disch := decide) only [gsu_f, gsu_s, gsu_e, gsl_f, gsl_g, gsl_s, gsl_e, gsu_g, gw9_f, gd2_1]
          rw [show 64 * s + i + 2 * q = 64 * s + (i + 2 * q) by omega, q4 _ (by omega)]
        · simp (disch := decide) only [gsu_f, gsu_s, gsu_e, gsl_f, gsl_g, gsl_s, gsl_e, gsu_g, gw9_f, gd2_1]
          rw [show 64 * s + i + 2 * q + 1 = 64 * s + (i + 2 * q + 1) by omega, q4 _ (by omega)]
      · rw [v_items_y hs (by simp (disch := decide) only [gsu_f, gsu_s, gsu_e, gsl_f, gsl_g, gsl_s, gsl_e, gsu_g, gd2_1]; rw [r1]; exact m2) hn (by simp (disch := decide) only [gsu_f, gsu_s, gsu_e, gsl_f, gsl_g, gsl_s, gsl_e, gsu_g, gd2_1]; exact z2) c]
        refine ⟨fun _ => v_lay_loop (A := fun q => (σ.1 21 s (i + 2 * q)).toInt64) (B := fun q => (σ.1 21 s (i + 2 * q + 1)).toInt64) hw hs hi (fun q hq => ?_) (fun q hq => ?_) (fun z => absurd z hf) (fun _ => ⟨rfl, kb⟩), fun z => absurd (by decide) z⟩
        · simp (disch := decide) only [gsu_f, gsu_s, gsu_e, gsl_f, gsl_g, gsl_s, gsl_e, gsu_g, gd2_1]
          rw [show 64 * s + i + 2 * q = 64 * s + (i + 2 * q) by omega, q4 _ (by omega)]
        · simp (disch := decide) only [gsu_f, gsu_s, gsu_e, gsl_f, gsl_g, gsl_s, gsl_e, gsu_g, gd2_1]
          rw [show 64 * s + i + 2 * q + 1 = 64 * s + (i + 2 * q + 1) by omega, q4 _ (by omega)]
    · rw [u_reach_n hn z1 (fun z => c ⟨z.1, z.2.2⟩)]
      simp only [if0, if0n, if1, if1n, true_implies, not_true_eq_false, not_false_eq_true, false_implies, and_true, true_and, implies_true]
      rw [v_items_n hs (by simp (disch := decide) only [gsu_f, gsu_s, gsu_e, gsl_f, gsl_g, gsl_s, gsl_e, gsu_g]; rw [r1]; exact m2) hn (by simp (disch := decide) only [gsu_f, gsu_s, gsu_e, gsl_f, gsl_g, gsl_s, gsl_e, gsu_g]; exact z2) c]
      exact ⟨fun z => absurd z (by decide), fun _ => ⟨rfl, (by (repeat rw [gRs_su (by decide)]); exact h.1), (by (repeat rw [gRw_su (by decide)]); exact h.2.1), (by (repeat rw [gRp_su (by decide)]); exact h.2.2.1), (by (repeat rw [gRt_su (by decide)]); exact h.2.2.2.1), (by (repeat rw [gRa_su (by decide)]); exact h.2.2.2.2.1), (by (repeat rw [gRf_su (by decide)]); exact h.2.2.2.2.2.1), (by unfold gRz; simp (disch := decide) only [gsu_f, gsu_s, gsu_e])⟩⟩
