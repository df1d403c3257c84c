/-! PURE: parts -/
theorem add64 {x y : Int64} {M N : Nat} (hx : -(M : Int) ≤ x.toInt ∧ x.toInt ≤ M) (hy : -(N : Int) ≤ y.toInt ∧ y.toInt ≤ N) (h : M + N < 2 ^ 62) : -((M + N : Nat) : Int) ≤ (x + y).toInt ∧ (x + y).toInt ≤ ((M + N : Nat) : Int) := by
  rw [Int64.toInt_add, Int.bmod_def]
  omega
theorem sub64 {x y : Int64} {M N : Nat} (hx : -(M : Int) ≤ x.toInt ∧ x.toInt ≤ M) (hy : -(N : Int) ≤ y.toInt ∧ y.toInt ≤ N) (h : M + N < 2 ^ 62) : -((M + N : Nat) : Int) ≤ (x - y).toInt ∧ (x - y).toInt ≤ ((M + N : Nat) : Int) := by
  rw [Int64.toInt_sub, Int.bmod_def]
  omega
/-- the parts of r = (a, b) and o = (c, d) -/
def gpA (t : Nat) (a b c d : Int64) : Int64 := match t with
  | 3 => ((a * a - b * b) * c) + ((((2 : Int64) * a) * b) * d)
  | 2 => (a * a + b * b) * c
  | 1 => (c * c + d * d) * a
  | _ => (a * a + b * b) * a
def gpB (t : Nat) (a b c d : Int64) : Int64 := match t with
  | 3 => ((((2 : Int64) * a) * b) * c) - ((a * a - b * b) * d)
  | 2 => (a * a + b * b) * d
  | 1 => (c * c + d * d) * b
  | _ => (a * a + b * b) * b
set_option maxHeartbeats 1000000 in
theorem gp_bd {t : Nat} {a b c d : Int64} (ht : t < 4) (ha : -((1000000 : Nat) : Int) ≤ a.toInt ∧ a.toInt ≤ ((1000000 : Nat) : Int)) (hb : -((1000000 : Nat) : Int) ≤ b.toInt ∧ b.toInt ≤ ((1000000 : Nat) : Int)) (hc : -((1000000 : Nat) : Int) ≤ c.toInt ∧ c.toInt ≤ ((1000000 : Nat) : Int)) (hd : -((1000000 : Nat) : Int) ≤ d.toInt ∧ d.toInt ≤ ((1000000 : Nat) : Int)) : -9000000000000000000 ≤ (gpA t a b c d).toInt ∧ -9000000000000000000 ≤ (gpB t a b c d).toInt := by
  have aa := (mul64 ha ha (by decide)).2
  have bb := (mul64 hb hb (by decide)).2
  have cc := (mul64 hc hc (by decide)).2
  have dd := (mul64 hd hd (by decide)).2
  have sa := add64 aa bb (by decide)
  have sc := add64 cc dd (by decide)
  have da := sub64 aa bb (by decide)
  have h2 : -((2 : Nat) : Int) ≤ (2 : Int64).toInt ∧ (2 : Int64).toInt ≤ ((2 : Nat) : Int) := by decide
  have t1 := (mul64 h2 ha (by decide)).2
  have t2 := (mul64 t1 hb (by decide)).2
  rcases (show t = 0 ∨ t = 1 ∨ t = 2 ∨ t = 3 by omega) with rfl | rfl | rfl | rfl
  · have r1 := (mul64 sa ha (by decide)).2.1
    have r2 := (mul64 sa hb (by decide)).2.1
    simp only [Nat.reduceMul, Nat.reduceAdd] at r1 r2
    exact ⟨Int.le_trans (by decide) r1, Int.le_trans (by decide) r2⟩
  · have r1 := (mul64 sc ha (by decide)).2.1
    have r2 := (mul64 sc hb (by decide)).2.1
    simp only [Nat.reduceMul, Nat.reduceAdd] at r1 r2
    exact ⟨Int.le_trans (by decide) r1, Int.le_trans (by decide) r2⟩
  · have r1 := (mul64 sa hc (by decide)).2.1
    have r2 := (mul64 sa hd (by decide)).2.1
    simp only [Nat.reduceMul, Nat.reduceAdd] at r1 r2
    exact ⟨Int.le_trans (by decide) r1, Int.le_trans (by decide) r2⟩
  · have r1 := (add64 (mul64 da hc (by decide)).2 (mul64 t2 hd (by decide)).2 (by decide)).1
    have r2 := (sub64 (mul64 t2 hc (by decide)).2 (mul64 da hd (by decide)).2 (by decide)).1
    simp only [Nat.reduceMul, Nat.reduceAdd] at r1 r2
    exact ⟨Int.le_trans (by decide) r1, Int.le_trans (by decide) r2⟩
theorem u_sendPart {o r t q : Nat} {σ : gT} {k : gT → Prop} (ht : t < 4) (hq : q < 16) (h : k (gsl (gsl σ 12 0 q (gpA t (σ.1 23 r q).toInt64 (σ.1 24 r q).toInt64 (σ.1 23 o q).toInt64 (σ.1 24 o q).toInt64)) 13 0 q (gpB t (σ.1 23 r q).toInt64 (σ.1 24 r q).toInt64 (σ.1 23 o q).toInt64 (σ.1 24 o q).toInt64))) : wX9_sendPart o r (nI t) (nI q) σ k := by
  have v : vp_in (nI q) 16 := vp_in_nI hq (by decide)
  unfold wX9_sendPart wX9_sendPart_160 wX9_brightOf wX1_put
  rw [nI_clamp (show q < 2 ^ 31 by omega)]
  refine ⟨v, v, v, v, ?_⟩
  rcases (show t = 0 ∨ t = 1 ∨ t = 2 ∨ t = 3 by omega) with rfl | rfl | rfl | rfl
  · exact ⟨fun _ => ⟨fun _ => ⟨fun z => absurd rfl z, fun _ => ⟨v, v, h⟩⟩, fun z => absurd z (by decide)⟩, fun z => absurd z (by decide)⟩
  · exact ⟨fun _ => ⟨fun _ => ⟨fun _ => ⟨v, v, h⟩, fun z => absurd z (by decide)⟩, fun z => absurd z (by decide)⟩, fun z => absurd z (by decide)⟩
  · exact ⟨fun _ => ⟨fun z => absurd rfl z, fun _ => ⟨v, v, h⟩⟩, fun z => absurd z (by decide)⟩
  · exact ⟨fun z => absurd rfl z, fun _ => ⟨v, v, h⟩⟩
set_option maxHeartbeats 1000000 in
theorem J_parts (x1 x2 x3 x4 : Int32) {σ : gT} (h : gR σ) : wX9_parts x1 x2 x3 x4 σ (fun r s1 => wX10_parts x1 x2 x3 x4 s1 (fun r2 s2 => r = r2 ∧ gR s2)) := by
  unfold wX9_parts wX10_parts
  rcases ixc 8 (by decide) (x := x1) with c | ⟨o, ho, rfl⟩
  · simp only [u_isWave_out c, v_isWave_out c, if0, if0n, if1, if1n, true_implies, not_true_eq_false, not_false_eq_true, false_implies, and_true, true_and, implies_true]
    exact gR_thrown h
  simp only [u_isWave_in ho, v_isWave_in ho, if0, if0n, if1, if1n, true_implies, not_true_eq_false, not_false_eq_true, false_implies, and_true, true_and, implies_true]
  rcases ixc 8 (by decide) (x := x2) with c | ⟨r, hr, rfl⟩
  · simp only [u_isWave_out c, v_isWave_out c, if0, if0n, if1, if1n, true_implies, not_true_eq_false, not_false_eq_true, false_implies, and_true, true_and, implies_true]
    exact gR_thrown h
  simp only [u_isWave_in hr, v_isWave_in hr, if0, if0n, if1, if1n, true_implies, not_true_eq_false, not_false_eq_true, false_implies, and_true, true_and, implies_true]
  rcases ixc 4 (by decide) (x := x3) with c | ⟨t, ht, rfl⟩
  · have h2 : ∀ (σ : gT) (k : Int32 → gT → Prop), wX10_in x3.toInt64 (0 : Int64) (3 : Int64) σ k ↔ k 0 σ := fun σ k => v_outN (N := 4) (by decide) (by decide) rfl c
    simp only [u_below_out (b := 4) c, h2, if0, if0n, if1, if1n, true_implies, not_true_eq_false, not_false_eq_true, false_implies, and_true, true_and, implies_true]
    exact gR_thrown h
  have h1 : ∀ (σ : gT) (k : Int32 → gT → Prop), wX9_below (nI t) (4 : Int32) σ k ↔ k 1 σ := fun σ k => u_below_in (N := 4) ht (by decide)
  have h2 : ∀ (σ : gT) (k : Int32 → gT → Prop), wX10_in (nI t).toInt64 (0 : Int64) (3 : Int64) σ k ↔ k 1 σ := fun σ k => v_inN (N := 4) ht (by decide) rfl
  simp only [h1, h2, if0, if0n, if1, if1n, true_implies, not_true_eq_false, not_false_eq_true, false_implies, and_true, true_and, implies_true]
  rcases ixc 8 (by decide) (x := x4) with c | ⟨w, hw, rfl⟩
  · simp only [u_isWave_out c, v_isWave_out c, if0, if0n, if1, if1n, true_implies, not_true_eq_false, not_false_eq_true, false_implies, and_true, true_and, implies_true]
    exact gR_thrown h
  simp only [u_isWave_in hw, v_isWave_in hw, if0, if0n, if1, if1n, true_implies, not_true_eq_false, not_false_eq_true, false_implies, and_true, true_and, implies_true]
  have ew : (nI w).toNatClampNeg = w := nI_clamp (by omega)
  have eo : (nI o).toNatClampNeg = o := nI_clamp (by omega)
  have er : (nI r).toNatClampNeg = r := nI_clamp (by omega)
  have vw : vp_in (nI w) 8 := vp_in_nI hw (by decide)
  have vo : vp_in (nI o) 8 := vp_in_nI ho (by decide)
  have vr : vp_in (nI r) 8 := vp_in_nI hr (by decide)
  generalize hA : (fun q => gpA t (σ.1 23 r q).toInt64 (σ.1 24 r q).toInt64 (σ.1 23 o q).toInt64 (σ.1 24 o q).toInt64) = A
  generalize hB : (fun q => gpB t (σ.1 23 r q).toInt64 (σ.1 24 r q).toInt64 (σ.1 23 o q).toInt64 (σ.1 24 o q).toInt64) = B
  have hsm : gsm A B := by
    intro q hq
    obtain ⟨-, -, w1, w2⟩ := h.2.1 r hr q hq
    obtain ⟨-, -, w3, w4⟩ := h.2.1 o ho q hq
    rw [← hA, ← hB]
    exact gp_bd ht (i32_bd (M := 1000000) w1) (i32_bd (M := 1000000) w2) (i32_bd (M := 1000000) w3) (i32_bd (M := 1000000) w4)
  have U : ∀ (k : Int32 → gT → Prop), (gfit A B → k 1 (gw9 (gd2 σ 12 13 A B 16) w A B 16)) → (¬ gfit A B → k (-1000003) (gd2 σ 12 13 A B 16)) → ∃ n, wX9_parts_36 k n (nI o) (nI r) (nI t) (nI w) 0 σ := by
    intro k hy hn
    have key : ∀ m j, j + m = 16 → wX9_parts_36 k (m + 1) (nI o) (nI r) (nI t) (nI w) (nI j) (gd2 σ 12 13 A B j) := by
      intro m
      induction m with
      | zero =>
        intro j hj
        have hz : j = 16 := by omega
        subst hz
        unfold wX9_parts_36
        rw [ew]
        exact ⟨fun _ => ⟨vw, u_settle (A := A) (B := B) (fun q hq => gd2_at (by decide) hq) hsm (fun hf => ⟨fun z => absurd z (by decide), fun _ => hy hf⟩) (fun hf => ⟨fun _ => hn hf, fun z => absurd rfl z⟩)⟩, fun z => absurd (by decide) z⟩
      | succ m ih =>
        intro j hj
        have hq := ih (j + 1) (by omega)
        unfold wX9_parts_36
        rw [eo, er, nI_1]
        refine ⟨fun z => absurd z (nI_ge (b := 16) (by omega) (by decide)), fun _ => ⟨vo, vr, u_sendPart ht (by omega) ?_⟩⟩
        have e := gd2_s (σ := σ) (f := 12) (f2 := 13) (n := j) (A := A) (B := B) (by decide)
        simp only [gd2_1]
        have ea : gpA t (σ.1 23 r j).toInt64 (σ.1 24 r j).toInt64 (σ.1 23 o j).toInt64 (σ.1 24 o j).toInt64 = A j := by rw [← hA]
        have eb : gpB t (σ.1 23 r j).toInt64 (σ.1 24 r j).toInt64 (σ.1 23 o j).toInt64 (σ.1 24 o j).toInt64 = B j := by rw [← hB]
        rw [ea, eb, e]
        exact hq
    have := key 16 0 rfl
    rw [gd2_0] at this
    exact ⟨17, this⟩
  have V : ∀ (τ : gT) (k : Int32 → gT → Prop), (∀ v q, v < 8 → q < 16 → τ.1 31 0 (16 * v + q) = σ.1 23 v q ∧ τ.1 32 0 (16 * v + q) = σ.1 24 v q) → (gfit A B → k 1 (gw10 (gd2 τ 33 34 A B 16) w A B 16)) → (¬ gfit A B → k (-1000003) (gd2 τ 33 34 A B 16)) → ∃ n, wX10_parts_45 k n (nI o) (nI r) (nI t) (nI w) 0 τ := by
    intro τ k hτ hy hn
    have key : ∀ m j, j + m = 16 → wX10_parts_45 k (m + 1) (nI o) (nI r) (nI t) (nI w) (nI j) (gd2 τ 33 34 A B j) := by
      intro m
      induction m with
      | zero =>
        intro j hj
        have hz : j = 16 := by omega
        subst hz
        unfold wX10_parts_45
        exact ⟨fun _ => v_isMade (A := A) (B := B) hw (fun q hq => gd2_at (by decide) hq) (fun hf => ⟨fun z => absurd z (by decide), fun _ => hy hf⟩) (fun hf => ⟨fun _ => hn hf, fun z => absurd rfl z⟩), fun z => absurd (by decide) z⟩
      | succ m ih =>
        intro j hj
        have hq := ih (j + 1) (by omega)
        have v : vp_in (nI j) 16 := vp_in_nI (by omega) (by decide)
        have v2 : vp_in (nI (16 * r + j)) 128 := vp_in_nI (by omega) (by decide)
        have v3 : vp_in (nI (16 * o + j)) 128 := vp_in_nI (by omega) (by decide)
        obtain ⟨t1, t2⟩ := hτ r j hr (by omega)
        obtain ⟨t3, t4⟩ := hτ o j ho (by omega)
        have e := gd2_s (σ := τ) (f := 33) (f2 := 34) (n := j) (A := A) (B := B) (by decide)
        have ea : gpA t (σ.1 23 r j).toInt64 (σ.1 24 r j).toInt64 (σ.1 23 o j).toInt64 (σ.1 24 o j).toInt64 = A j := by rw [← hA]
        have eb : gpB t (σ.1 23 r j).toInt64 (σ.1 24 r j).toInt64 (σ.1 23 o j).toInt64 (σ.1 24 o j).toInt64 = B j := by rw [← hB]
        rw [← ea, ← eb] at e
        rw [← e] at hq
        unfold wX10_parts_45 wX10_parts_242 wX10_parts_128 wX10_parts_155 wX10_parts_177 wX10_parts_242
        rw [ix16, ix16, nI_clamp (show j < 2 ^ 31 by omega), nI_clamp (show 16 * r + j < 2 ^ 31 by omega), nI_clamp (show 16 * o + j < 2 ^ 31 by omega), nI_1]
        simp only [gd2_1, t1, t2, t3, t4]
        refine ⟨fun z => absurd z (nI_ge (b := 16) (by omega) (by decide)), fun _ => ⟨v2, v2, v3, v3, ?_⟩⟩
        rcases (show t = 0 ∨ t = 1 ∨ t = 2 ∨ t = 3 by omega) with z | z | z | z <;> subst z
        · exact ⟨fun z => absurd z (by decide), fun _ => ⟨fun _ => (v_brightOf (σ := gd2 τ 33 34 A B j) hr (by omega) t1 t2).mpr ⟨fun _ => ⟨v, fun _ => ⟨v, hq⟩, fun z => absurd z (by decide)⟩, fun z => absurd z (by decide)⟩, fun z => absurd z (by decide)⟩⟩
        · exact ⟨fun z => absurd z (by decide), fun _ => ⟨fun z => absurd rfl z, fun _ => (v_brightOf (σ := gd2 τ 33 34 A B j) ho (by omega) t3 t4).mpr ⟨fun _ => ⟨v, fun _ => ⟨v, hq⟩, fun z => absurd z (by decide)⟩, fun z => absurd z (by decide)⟩⟩⟩
        · exact ⟨fun z => absurd z (by decide), fun _ => ⟨fun _ => (v_brightOf (σ := gd2 τ 33 34 A B j) hr (by omega) t1 t2).mpr ⟨fun z => absurd rfl z, fun _ => ⟨v, fun z => absurd rfl z, fun _ => ⟨v, hq⟩⟩⟩, fun z => absurd z (by decide)⟩⟩
        · exact ⟨fun _ => ⟨v, v, hq⟩, fun z => absurd (by decide) z⟩
    have := key 16 0 rfl
    rw [gd2_0] at this
    exact ⟨17, this⟩
  have kb : gR (gsu σ 10 0 0 0) := gR_thrown h
  have hR : ∀ v q, v < 8 → q < 16 → σ.1 31 0 (16 * v + q) = σ.1 23 v q ∧ σ.1 32 0 (16 * v + q) = σ.1 24 v q := fun v q hv hq => ⟨(h.2.1 v hv q hq).1, (h.2.1 v hv q hq).2.1⟩
  refine U _ (fun hf => ?_) (fun hf => ?_)
  · refine V _ _ (fun v q hv hq => ?_) (fun _ => ⟨rfl, gR_fin1 h hw hf⟩) (fun z => absurd hf z)
    simp (disch := decide) only [gsu_f, gsu_s, gsu_e, gsl_f, gsl_g, gsl_s, gsl_e, gsu_g, gw9_f, gd2_1]
    exact hR v q hv hq
  · refine V _ _ (fun v q hv hq => ?_) (fun z => absurd z hf) (fun _ => ⟨rfl, kb⟩)
    simp (disch := decide) only [gsu_f, gsu_s, gsu_e, gsl_f, gsl_g, gsl_s, gsl_e, gsu_g, gd2_1]
    exact hR v q hv hq
