/-! PURE: bright, moved -/
def gsum (f : Nat → Int64) : Nat → Int64
  | 0 => 0
  | n + 1 => gsum f n + f n
theorem gsum_cong {f g : Nat → Int64} : ∀ {n : Nat}, (∀ j, j < n → f j = g j) → gsum f n = gsum g n
  | 0, _ => rfl
  | n + 1, h => by
    show gsum f n + f n = gsum g n + g n
    rw [gsum_cong (fun j hj => h j (by omega)), h n (by omega)]
def gbr (a b : Int32) : Int64 := a.toInt64 * a.toInt64 + b.toInt64 * b.toInt64
set_option maxHeartbeats 1000000 in
theorem u_bright_loop {w : Nat} {σ : gT} {k : Int64 → gT → Prop} (h : k (gsum (fun q => gbr (σ.1 23 w q) (σ.1 24 w q)) 16) σ) : ∃ n, wX9_bright_30 k n w 0 0 σ := by
  have key : ∀ m j, j + m = 16 → wX9_bright_30 k (m + 1) w (gsum (fun q => gbr (σ.1 23 w q) (σ.1 24 w q)) j) (nI j) σ := by
    intro m
    induction m with
    | zero =>
      intro j hj
      have hz : j = 16 := by omega
      subst hz
      unfold wX9_bright_30
      exact ⟨fun _ => h, fun z => absurd (by decide) z⟩
    | succ m ih =>
      intro j hj
      have hn := ih (j + 1) (by omega)
      unfold wX9_bright_30 wX9_brightOf
      rw [nI_clamp (show j < 2 ^ 31 by omega), nI_1]
      exact ⟨fun z => absurd z (nI_ge (b := 16) (by omega) (by decide)), fun _ => ⟨vp_in_nI (by omega) (by decide), vp_in_nI (by omega) (by decide), hn⟩⟩
  exact ⟨17, key 16 0 rfl⟩
theorem v_brightOf {w q : Nat} {a b : Int32} {σ : gT} {k : Int64 → gT → Prop} (hw : w < 8) (hq : q < 16) (ha : σ.1 31 0 (16 * w + q) = a) (hb : σ.1 32 0 (16 * w + q) = b) : wX10_brightOf (nI w) (nI q) σ k ↔ k (gbr a b) σ := by
  unfold wX10_brightOf
  rw [ix16, nI_clamp (show 16 * w + q < 2 ^ 31 by omega), ha, hb]
  exact ⟨fun z => z.2.2, fun z => ⟨vp_in_nI (by omega) (by decide), vp_in_nI (by omega) (by decide), z⟩⟩
set_option maxHeartbeats 1000000 in
theorem v_bright_loop {w : Nat} {f g : Nat → Int32} {σ : gT} {k : Int64 → gT → Prop} (hw : w < 8) (hf : ∀ q, q < 16 → σ.1 31 0 (16 * w + q) = f q ∧ σ.1 32 0 (16 * w + q) = g q) (h : k (gsum (fun q => gbr (f q) (g q)) 16) σ) : ∃ n, wX10_bright_47 k n (nI w) 0 0 σ := by
  have key : ∀ m j, j + m = 16 → wX10_bright_47 k (m + 1) (nI w) (gsum (fun q => gbr (f q) (g q)) j) (nI j) σ := by
    intro m
    induction m with
    | zero =>
      intro j hj
      have hz : j = 16 := by omega
      subst hz
      unfold wX10_bright_47
      exact ⟨fun _ => h, fun z => absurd (by decide) z⟩
    | succ m ih =>
      intro j hj
      have hn := ih (j + 1) (by omega)
      unfold wX10_bright_47
      rw [nI_1]
      refine ⟨fun z => absurd z (nI_ge (b := 16) (by omega) (by decide)), fun _ => (v_brightOf hw (by omega) (hf j (by omega)).1 (hf j (by omega)).2).mpr hn⟩
  exact ⟨17, key 16 0 rfl⟩
set_option maxHeartbeats 1000000 in
theorem J_bright (x1 x2 : Int32) {σ : gT} (h : gR σ) : wX9_bright x1 x2 σ (fun r s1 => wX10_bright x1 x2 s1 (fun r2 s2 => r = r2 ∧ gR s2)) := by
  unfold wX9_bright wX10_bright wX10_bright_29
  rcases ixc 8 (by decide) (x := x1) with c | ⟨w, hw, rfl⟩
  · simp only [u_isWave_out c, v_isWave_out c, if0, if0n, if1, if1n, true_implies, not_true_eq_false, not_false_eq_true, false_implies, and_true, true_and, implies_true]
    exact gR_thrown h
  have ew : (nI w).toNatClampNeg = w := nI_clamp (by omega)
  have vw : vp_in (nI w) 8 := vp_in_nI hw (by decide)
  simp only [u_isWave_in hw, v_isWave_in hw, if0, if0n, if1, if1n, true_implies, not_true_eq_false, not_false_eq_true, false_implies, and_true, true_and, implies_true, ew]
  have hr : ∀ q, q < 16 → (gsu σ 10 0 0 0).1 31 0 (16 * w + q) = σ.1 23 w q ∧ (gsu σ 10 0 0 0).1 32 0 (16 * w + q) = σ.1 24 w q := fun q hq => by
    simp (disch := decide) only [gsu_f, gsu_s, gsu_e, gsl_f, gsl_g, gsl_s, gsl_e, gsu_g]
    exact ⟨(h.2.1 w hw q hq).1, (h.2.1 w hw q hq).2.1⟩
  refine ⟨vw, fun c => ?_, fun c => ?_⟩
  · rcases ixc 16 (by decide) (x := x2) with d | ⟨q, hq, rfl⟩
    · simp only [u_below_out (b := 16) d, v_isPlace_out d, if0, if0n, if1, if1n, true_implies, not_true_eq_false, not_false_eq_true, false_implies, and_true, true_and, implies_true]
      exact ⟨fun z => absurd z c, fun _ => gR_thrown h⟩
    · have hb : ∀ (σ : gT) (k : Int32 → gT → Prop), wX9_below (nI q) (16 : Int32) σ k ↔ k 1 σ := fun σ k => u_below_in (N := 16) hq (by decide)
      have eq : (nI q).toNatClampNeg = q := nI_clamp (by omega)
      have vq : vp_in (nI q) 16 := vp_in_nI hq (by decide)
      simp only [hb, v_isPlace_in hq, if0, if0n, if1, if1n, true_implies, not_true_eq_false, not_false_eq_true, false_implies, and_true, true_and, implies_true, eq]
      unfold wX9_brightOf
      refine ⟨vq, vq, fun z => absurd z c, fun _ => ⟨fun z => absurd z c, fun _ => (v_brightOf hw hq (hr q hq).1 (hr q hq).2).mpr ⟨rfl, gR_thrown h⟩⟩⟩
  · subst c
    refine u_bright_loop ⟨fun _ => ⟨fun _ => v_bright_loop hw hr ⟨rfl, gR_thrown h⟩, fun z => absurd rfl z⟩, fun z => absurd rfl z⟩
def gtr (t : Int32) (a b : Int64) : Int64 := if t = 0 then a else if t = 1 then -b else if t = 2 then -a else b
def gti (t : Int32) (a b : Int64) : Int64 := if t = 0 then b else if t = 1 then a else if t = 2 then -b else -a
theorem v_tRe {a b : Int64} {t : Int32} {σ : gT} {k : Int64 → gT → Prop} : wX10_turnedRe a b t σ k ↔ k (gtr t a b) σ := by
  unfold wX10_turnedRe gtr
  by_cases c0 : t = 0
  · rw [if_pos c0]; exact ⟨fun z => z.2 c0, fun z => ⟨fun y => absurd c0 y, fun _ => z⟩⟩
  rw [if_neg c0]
  by_cases c1 : t = 1
  · rw [if_pos c1]; exact ⟨fun z => (z.1 c0).2 c1, fun z => ⟨fun _ => ⟨fun y => absurd c1 y, fun _ => z⟩, fun y => absurd y c0⟩⟩
  rw [if_neg c1]
  by_cases c2 : t = 2
  · rw [if_pos c2]; exact ⟨fun z => ((z.1 c0).1 c1).2 c2, fun z => ⟨fun _ => ⟨fun _ => ⟨fun y => absurd c2 y, fun _ => z⟩, fun y => absurd y c1⟩, fun y => absurd y c0⟩⟩
  · rw [if_neg c2]; exact ⟨fun z => ((z.1 c0).1 c1).1 c2, fun z => ⟨fun _ => ⟨fun _ => ⟨fun _ => z, fun y => absurd y c2⟩, fun y => absurd y c1⟩, fun y => absurd y c0⟩⟩
theorem v_tIm {a b : Int64} {t : Int32} {σ : gT} {k : Int64 → gT → Prop} : wX10_turnedIm a b t σ k ↔ k (gti t a b) σ := by
  unfold wX10_turnedIm gti
  by_cases c0 : t = 0
  · rw [if_pos c0]; exact ⟨fun z => z.2 c0, fun z => ⟨fun y => absurd c0 y, fun _ => z⟩⟩
  rw [if_neg c0]
  by_cases c1 : t = 1
  · rw [if_pos c1]; exact ⟨fun z => (z.1 c0).2 c1, fun z => ⟨fun _ => ⟨fun y => absurd c1 y, fun _ => z⟩, fun y => absurd y c0⟩⟩
  rw [if_neg c1]
  by_cases c2 : t = 2
  · rw [if_pos c2]; exact ⟨fun z => ((z.1 c0).1 c1).2 c2, fun z => ⟨fun _ => ⟨fun _ => ⟨fun y => absurd c2 y, fun _ => z⟩, fun y => absurd y c1⟩, fun y => absurd y c0⟩⟩
  · rw [if_neg c2]; exact ⟨fun z => ((z.1 c0).1 c1).1 c2, fun z => ⟨fun _ => ⟨fun _ => ⟨fun _ => z, fun y => absurd y c2⟩, fun y => absurd y c1⟩, fun y => absurd y c0⟩⟩
theorem tint (t : Int32) : (t.toInt = 0 ↔ t = 0) ∧ (t.toInt = 1 ↔ t = 1) ∧ (t.toInt = 2 ↔ t = 2) := ⟨by rw [fa_eq]; rfl, by rw [fa_eq]; rfl, by rw [fa_eq]; rfl⟩
set_option maxHeartbeats 1000000 in
theorem u_tRe {a b : Int64} {t : Int32} {σ : gT} {k : Int64 → gT → Prop} : wX9_turnedRe a b t σ k ↔ k (gtr t a b) σ := by
  unfold wX9_turnedRe gtr
  obtain ⟨e0, e1, e2⟩ := tint t
  by_cases c0 : t = 0
  · subst c0; rw [if_pos rfl]; exact ⟨fun z => z.2.1 rfl, fun z => ⟨fun y => absurd y (by decide), fun _ => z, fun y => absurd y (by decide), fun y => absurd y (by decide), trivial⟩⟩
  rw [if_neg c0]
  by_cases c1 : t = 1
  · subst c1; rw [if_pos rfl]; exact ⟨fun z => z.2.2.1 rfl, fun z => ⟨fun y => absurd y (by decide), fun y => absurd y (by decide), fun _ => z, fun y => absurd y (by decide), trivial⟩⟩
  rw [if_neg c1]
  by_cases c2 : t = 2
  · subst c2; rw [if_pos rfl]; exact ⟨fun z => z.2.2.2.1 rfl, fun z => ⟨fun y => absurd y (by decide), fun y => absurd y (by decide), fun y => absurd y (by decide), fun _ => z, trivial⟩⟩
  · rw [if_neg c2]
    rw [← e0] at c0; rw [← e1] at c1; rw [← e2] at c2
    exact ⟨fun z => z.1 (by omega), fun z => ⟨fun _ => z, fun y => absurd y c0, fun y => absurd y c1, fun y => absurd y c2, trivial⟩⟩
set_option maxHeartbeats 1000000 in
theorem u_tIm {a b : Int64} {t : Int32} {σ : gT} {k : Int64 → gT → Prop} : wX9_turnedIm a b t σ k ↔ k (gti t a b) σ := by
  unfold wX9_turnedIm gti
  obtain ⟨e0, e1, e2⟩ := tint t
  by_cases c0 : t = 0
  · subst c0; rw [if_pos rfl]; exact ⟨fun z => z.2.1 rfl, fun z => ⟨fun y => absurd y (by decide), fun _ => z, fun y => absurd y (by decide), fun y => absurd y (by decide), trivial⟩⟩
  rw [if_neg c0]
  by_cases c1 : t = 1
  · subst c1; rw [if_pos rfl]; exact ⟨fun z => z.2.2.1 rfl, fun z => ⟨fun y => absurd y (by decide), fun y => absurd y (by decide), fun _ => z, fun y => absurd y (by decide), trivial⟩⟩
  rw [if_neg c1]
  by_cases c2 : t = 2
  · subst c2; rw [if_pos rfl]; exact ⟨fun z => z.2.2.2.1 rfl, fun z => ⟨fun y => absurd y (by decide), fun y => absurd y (by decide), fun y => absurd y (by decide), fun _ => z, trivial⟩⟩
  · rw [if_neg c2]
    rw [← e0] at c0; rw [← e1] at c1; rw [← e2] at c2
    exact ⟨fun z => z.1 (by omega), fun z => ⟨fun _ => z, fun y => absurd y c0, fun y => absurd y c1, fun y => absurd y c2, trivial⟩⟩
/-- the first TURN from t on, m of them looked at, that takes (a, b) to the direction of (c, d) -/
def gmv (a b c d : Int64) : Nat → Nat → Int32
  | 0, _ => -1000000
  | m + 1, t => if gtr (nI t) a b * d = gti (nI t) a b * c ∧ ¬ (gtr (nI t) a b * c + gti (nI t) a b * d) ≤ 0 then nI t else gmv a b c d m (t + 1)
set_option maxHeartbeats 1000000 in
theorem J_moved (x1 x2 x3 : Int32) {σ : gT} (h : gR σ) : wX9_moved x1 x2 x3 σ (fun r s1 => wX10_moved x1 x2 x3 s1 (fun r2 s2 => r = r2 ∧ gR s2)) := by
  unfold wX9_moved wX10_moved
  rcases ixc 8 (by decide) (x := x1) with c | ⟨w, hw, rfl⟩
  · simp only [u_isWave_out c, v_isWave_out c, if0, if0n, if1, if1n, true_implies, not_true_eq_false, not_false_eq_true, false_implies, and_true, true_and, implies_true]
    exact gR_thrown h
  have ew : (nI w).toNatClampNeg = w := nI_clamp (by omega)
  have vw : vp_in (nI w) 8 := vp_in_nI hw (by decide)
  simp only [u_isWave_in hw, v_isWave_in hw, if0, if0n, if1, if1n, true_implies, not_true_eq_false, not_false_eq_true, false_implies, and_true, true_and, implies_true, ew]
  rcases ixc 8 (by decide) (x := x2) with c | ⟨u, hu, rfl⟩
  · simp only [u_isWave_out c, v_isWave_out c, if0, if0n, if1, if1n, true_implies, not_true_eq_false, not_false_eq_true, false_implies, and_true, true_and, implies_true]
    exact gR_thrown h
  have eu : (nI u).toNatClampNeg = u := nI_clamp (by omega)
  have vu : vp_in (nI u) 8 := vp_in_nI hu (by decide)
  simp only [u_isWave_in hu, v_isWave_in hu, if0, if0n, if1, if1n, true_implies, not_true_eq_false, not_false_eq_true, false_implies, and_true, true_and, implies_true, eu]
  rcases ixc 16 (by decide) (x := x3) with c | ⟨q, hq, rfl⟩
  · simp only [u_below_out (b := 16) c, v_isPlace_out c, if0, if0n, if1, if1n, true_implies, not_true_eq_false, not_false_eq_true, false_implies, and_true, true_and, implies_true]
    exact gR_thrown h
  have hb : ∀ (σ : gT) (k : Int32 → gT → Prop), wX9_below (nI q) (16 : Int32) σ k ↔ k 1 σ := fun σ k => u_below_in (N := 16) hq (by decide)
  have eq : (nI q).toNatClampNeg = q := nI_clamp (by omega)
  have vq : vp_in (nI q) 16 := vp_in_nI hq (by decide)
  simp only [hb, v_isPlace_in hq, if0, if0n, if1, if1n, true_implies, not_true_eq_false, not_false_eq_true, false_implies, and_true, true_and, implies_true, eq]
  refine ⟨vu, vq, vu, vq, ?_⟩
  have U : ∀ (k : Int32 → gT → Prop) (m t : Nat), t + m = 4 → k (gmv (σ.1 23 w q).toInt64 (σ.1 24 w q).toInt64 (σ.1 23 u q).toInt64 (σ.1 24 u q).toInt64 m t) σ → wX9_moved_57 k (m + 1) (nI w) (nI q) (σ.1 23 u q).toInt64 (σ.1 24 u q).toInt64 (nI t) σ := by
    intro k m
    induction m with
    | zero =>
      intro t ht hk
      have hz : t = 4 := by omega
      subst hz
      unfold wX9_moved_57
      exact ⟨fun _ => hk, fun z => absurd (by decide) z⟩
    | succ m ih =>
      intro t ht hk
      have hn := ih (t + 1) (by omega)
      unfold gmv at hk
      unfold wX9_moved_57 wX9_moved_158
      rw [ew, eq, nI_1]
      refine ⟨fun z => absurd z (nI_ge (b := 4) (by omega) (by decide)), fun _ => ⟨vw, vq, vw, vq, u_tRe.mpr ⟨vw, vq, vw, vq, u_tIm.mpr ?_⟩⟩⟩
      rw [cmp_eq0, cmp_le0]
      refine ⟨fun c1 => hn ?_, fun c1 => ⟨fun c2 => hn ?_, fun c2 => ?_⟩⟩
      · rw [if_neg (fun z => c1 z.1)] at hk; exact hk
      · rw [if_neg (fun z => z.2 c2)] at hk; exact hk
      · rw [if_pos ⟨c1, c2⟩] at hk; exact hk
  have V : ∀ (k : Int32 → gT → Prop) (m t : Nat), t + m = 4 → k (gmv (σ.1 23 w q).toInt64 (σ.1 24 w q).toInt64 (σ.1 23 u q).toInt64 (σ.1 24 u q).toInt64 m t) (gsu σ 10 0 0 0) → wX10_moved_32 k (m + 1) (nI w) (nI u) (nI q) (nI t) (gsu σ 10 0 0 0) := by
    intro k m
    induction m with
    | zero =>
      intro t ht hk
      have hz : t = 4 := by omega
      subst hz
      unfold wX10_moved_32
      exact ⟨fun _ => hk, fun z => absurd (by decide) z⟩
    | succ m ih =>
      intro t ht hk
      have hn := ih (t + 1) (by omega)
      unfold gmv at hk
      unfold wX10_moved_32 wX10_moved_161
      have v1 : vp_in (nI (16 * w + q)) 128 := vp_in_nI (by omega) (by decide)
      have v2 : vp_in (nI (16 * u + q)) 128 := vp_in_nI (by omega) (by decide)
      have f1 : (nI (16 * w + q)).toNatClampNeg = 16 * w + q := nI_clamp (by omega)
      have f2 : (nI (16 * u + q)).toNatClampNeg = 16 * u + q := nI_clamp (by omega)
      have g1 := h.2.1 w hw q hq
      have g2 := h.2.1 u hu q hq
      rw [ix16, ix16, f1, f2, nI_1]
      simp (disch := decide) only [gsu_f, gsu_s, gsu_e, gsl_f, gsl_g, gsl_s, gsl_e, gsu_g]
      rw [g1.1, g1.2.1]
      refine ⟨fun z => absurd z (nI_ge (b := 4) (by omega) (by decide)), fun _ => ⟨v1, v1, v_tRe.mpr ⟨v1, v1, ?_⟩⟩⟩
      simp (disch := decide) only [gsu_f, gsu_s, gsu_e, gsl_f, gsl_g, gsl_s, gsl_e, gsu_g]
      rw [g1.1, g1.2.1]
      refine v_tIm.mpr ⟨v2, v2, ?_⟩
      simp (disch := decide) only [gsu_f, gsu_s, gsu_e, gsl_f, gsl_g, gsl_s, gsl_e, gsu_g]
      rw [g2.1, g2.2.1]
      rw [cmp_eq0, cmp_le0]
      refine ⟨fun c1 => hn ?_, fun c1 => ⟨fun c2 => hn ?_, fun c2 => ?_⟩⟩
      · rw [if_neg (fun z => c1 z.1)] at hk; exact hk
      · rw [if_neg (fun z => z.2 c2)] at hk; exact hk
      · rw [if_pos ⟨c1, c2⟩] at hk; exact hk
  exact ⟨5, U _ 4 0 rfl ⟨5, V _ 4 0 rfl ⟨rfl, gR_thrown h⟩⟩⟩
