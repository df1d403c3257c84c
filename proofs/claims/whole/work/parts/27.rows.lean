/-! PURE: rows written whole; sheet, bright, moved -/
/-- n ints of a row, from place o on -/
def grw (σ : gT) (f i o : Nat) (g : Nat → Int32) (n : Nat) : gT := (fun a b c => if a = f ∧ b = i ∧ o ≤ c ∧ c < o + n then g (c - o) else σ.1 a b c, σ.2)
theorem grw_f {σ : gT} {f i o n : Nat} {g : Nat → Int32} {a b c : Nat} (h : a ≠ f) : (grw σ f i o g n).1 a b c = σ.1 a b c := if_neg (fun z => h z.1)
theorem grw_g {σ : gT} {f i o n : Nat} {g : Nat → Int32} {a b c : Nat} : (grw σ f i o g n).2 a b c = σ.2 a b c := rfl
theorem grw_in {σ : gT} {f i o n : Nat} {g : Nat → Int32} {c : Nat} (h : c < n) : (grw σ f i o g n).1 f i (o + c) = g c := by
  unfold grw
  dsimp only
  rw [if_pos ⟨rfl, rfl, by omega, by omega⟩]
  congr 1
  omega
theorem grw_in0 {σ : gT} {f i n : Nat} {g : Nat → Int32} {c : Nat} (h : c < n) : (grw σ f i 0 g n).1 f i c = g c := by
  have := grw_in (σ := σ) (f := f) (i := i) (o := 0) (g := g) h
  rwa [Nat.zero_add] at this
theorem grw_out {σ : gT} {f i o n : Nat} {g : Nat → Int32} {a b c : Nat} (h : ¬ (b = i ∧ o ≤ c ∧ c < o + n)) : (grw σ f i o g n).1 a b c = σ.1 a b c := if_neg (fun z => h z.2)
theorem grw_0 {σ : gT} {f i o : Nat} {g : Nat → Int32} : grw σ f i o g 0 = σ := by
  unfold grw
  refine Prod.ext ?_ rfl
  funext a b c
  dsimp only
  rw [if_neg (by omega)]
set_option maxHeartbeats 1000000 in
theorem grw_s {σ : gT} {f i o n : Nat} {g : Nat → Int32} : gsu (grw σ f i o g n) f i (o + n) (g n) = grw σ f i o g (n + 1) := by
  refine Prod.ext ?_ rfl
  funext a b c
  rw [gsu_1]
  unfold grw
  dsimp only
  by_cases h : a = f ∧ b = i ∧ c = o + n
  · rw [if_pos h, if_pos ⟨h.1, h.2.1, by omega, by omega⟩, h.2.2]
    congr 1
    omega
  · rw [if_neg h]
    by_cases h2 : a = f ∧ b = i ∧ o ≤ c ∧ c < o + n
    · rw [if_pos h2, if_pos ⟨h2.1, h2.2.1, by omega, by omega⟩]
    · rw [if_neg h2, if_neg]
      rintro ⟨z1, z2, z3, z4⟩
      by_cases z5 : c = o + n
      · exact h ⟨z1, z2, z5⟩
      · exact h2 ⟨z1, z2, z3, by omega⟩
theorem gRs_cong {σ τ : gT} (h : ∀ a b c, (a = 6 ∨ a = 21 ∨ a = 28 ∨ a = 29 ∨ a = 30) → τ.1 a b c = σ.1 a b c) : gRs τ ↔ gRs σ := by
  unfold gRs
  simp only [h 6 _ _ (by decide), h 21 _ _ (by decide), h 28 _ _ (by decide), h 29 _ _ (by decide), h 30 _ _ (by decide)]
theorem gRw_cong {σ τ : gT} (h : ∀ a b c, (a = 23 ∨ a = 24 ∨ a = 31 ∨ a = 32) → τ.1 a b c = σ.1 a b c) : gRw τ ↔ gRw σ := by
  unfold gRw
  simp only [h 23 _ _ (by decide), h 24 _ _ (by decide), h 31 _ _ (by decide), h 32 _ _ (by decide)]
theorem gRp_cong {σ τ : gT} (h : ∀ a b c, (a = 3 ∨ a = 17 ∨ a = 36 ∨ a = 37) → τ.1 a b c = σ.1 a b c) : gRp τ ↔ gRp σ := by
  unfold gRp gLs gpg
  simp only [h 3 _ _ (by decide), h 17 _ _ (by decide), h 36 _ _ (by decide), h 37 _ _ (by decide)]
theorem gRt_cong {σ τ : gT} (h : ∀ a b c, (a = 7 ∨ a = 10 ∨ a = 22 ∨ a = 35) → τ.1 a b c = σ.1 a b c) : gRt τ ↔ gRt σ := by
  unfold gRt
  simp only [h 7 _ _ (by decide), h 10 _ _ (by decide), h 22 _ _ (by decide), h 35 _ _ (by decide)]
theorem gRa_cong {σ τ : gT} (h : ∀ a b c, (a = 0 ∨ a = 10 ∨ a = 11 ∨ a = 38) → τ.1 a b c = σ.1 a b c) : gRa τ ↔ gRa σ := by
  unfold gRa
  simp only [h 0 _ _ (by decide), h 10 _ _ (by decide), h 11 _ _ (by decide), h 38 _ _ (by decide)]
theorem gRs_sr {σ : gT} {f i o n : Nat} {g : Nat → Int32} (h : f ≠ 6 ∧ f ≠ 21 ∧ f ≠ 28 ∧ f ≠ 29 ∧ f ≠ 30) : gRs (grw σ f i o g n) ↔ gRs σ := gRs_cong (fun a b c ha => grw_f (by omega))
theorem gRw_sr {σ : gT} {f i o n : Nat} {g : Nat → Int32} (h : f ≠ 23 ∧ f ≠ 24 ∧ f ≠ 31 ∧ f ≠ 32) : gRw (grw σ f i o g n) ↔ gRw σ := gRw_cong (fun a b c ha => grw_f (by omega))
theorem gRp_sr {σ : gT} {f i o n : Nat} {g : Nat → Int32} (h : f ≠ 3 ∧ f ≠ 17 ∧ f ≠ 36 ∧ f ≠ 37) : gRp (grw σ f i o g n) ↔ gRp σ := gRp_cong (fun a b c ha => grw_f (by omega))
theorem gRt_sr {σ : gT} {f i o n : Nat} {g : Nat → Int32} (h : f ≠ 7 ∧ f ≠ 10 ∧ f ≠ 22 ∧ f ≠ 35) : gRt (grw σ f i o g n) ↔ gRt σ := gRt_cong (fun a b c ha => grw_f (by omega))
theorem gRa_sr {σ : gT} {f i o n : Nat} {g : Nat → Int32} (h : f ≠ 0 ∧ f ≠ 10 ∧ f ≠ 11 ∧ f ≠ 38) : gRa (grw σ f i o g n) ↔ gRa σ := gRa_cong (fun a b c ha => grw_f (by omega))
theorem gRf_sr {σ : gT} {f i o n : Nat} {g : Nat → Int32} (h : f ≠ 9 ∧ f ≠ 10) : gRf (grw σ f i o g n) ↔ gRf σ := by
  unfold gRf
  rw [grw_f (by omega), grw_f (by omega)]
theorem gRz_sr {σ : gT} {f i o n : Nat} {g : Nat → Int32} (h : f ≠ 9 ∧ f ≠ 10) : gRz (grw σ f i o g n) ↔ gRz σ := by
  unfold gRz
  rw [grw_f (by omega), grw_f (by omega)]
set_option maxHeartbeats 1000000 in
theorem u_fill {i : Nat} {v : Int32} {σ : gT} {k : gT → Prop} (h : k (grw σ 21 i 0 (fun _ => v) 64)) : wJ7_fill_53178 i v σ k := by
  have key : ∀ m j, j + m = 64 → wJ7_fill_53178_5 k (m + 1) i v (nI j) 64 (grw σ 21 i 0 (fun _ => v) j) := by
    intro m
    induction m with
    | zero =>
      intro j hj
      have hz : j = 64 := by omega
      subst hz
      unfold wJ7_fill_53178_5
      exact ⟨fun _ => h, fun z => absurd (by decide) z⟩
    | succ m ih =>
      intro j hj
      have hn := ih (j + 1) (by omega)
      unfold wJ7_fill_53178_5
      rw [nI_clamp (show j < 2 ^ 31 by omega), nI_1]
      refine ⟨fun z => absurd z (nI_ge (b := 64) (by omega) (by decide)), fun _ => ⟨vp_in_nI (by omega) (by decide), ?_⟩⟩
      have e := grw_s (σ := σ) (f := 21) (i := i) (o := 0) (n := j) (g := fun _ => v)
      rw [Nat.zero_add] at e
      rw [e]
      exact hn
  have := key 64 0 rfl
  rw [grw_0] at this
  exact ⟨65, this⟩
set_option maxHeartbeats 1000000 in
theorem v_sheet_loop {s : Nat} {x : Int32} {σ : gT} {k : Int32 → gT → Prop} (hs : s < 8) (h : k x (grw σ 30 0 (64 * s) (fun _ => 0) 64)) : ∃ n, wX10_sheet_65 k n (nI s) x 0 σ := by
  have key : ∀ m j, j + m = 64 → wX10_sheet_65 k (m + 1) (nI s) x (nI j) (grw σ 30 0 (64 * s) (fun _ => 0) j) := by
    intro m
    induction m with
    | zero =>
      intro j hj
      have hz : j = 64 := by omega
      subst hz
      unfold wX10_sheet_65
      exact ⟨fun _ => h, fun z => absurd (by decide) z⟩
    | succ m ih =>
      intro j hj
      have hn := ih (j + 1) (by omega)
      unfold wX10_sheet_65
      rw [ix64, nI_clamp (show 64 * s + j < 2 ^ 31 by omega), nI_1]
      refine ⟨fun z => absurd z (nI_ge (b := 64) (by omega) (by decide)), fun _ => ⟨vp_in_nI (by omega) (by decide), ?_⟩⟩
      rw [grw_s (σ := σ) (f := 30) (i := 0) (o := 64 * s) (n := j) (g := fun _ => 0)]
      exact hn
  have := key 64 0 rfl
  rw [grw_0] at this
  exact ⟨65, this⟩
set_option maxHeartbeats 1000000 in
theorem J_sheet (x1 x2 x3 : Int32) {σ : gT} (h : gR σ) : wX9_sheet x1 x2 x3 σ (fun r s1 => wX10_sheet x1 x2 x3 s1 (fun r2 s2 => r = r2 ∧ gR s2)) := by
  unfold wX9_sheet wX10_sheet wX6_become wX9_fine wX9_found wX10_finding
  rcases ixc 8 (by decide) (x := x1) with c | ⟨w, hw, rfl⟩
  · simp only [u_isSheet_out c, v_isSheet_out c, if0, if0n, if1, if1n, true_implies, not_true_eq_false, not_false_eq_true, false_implies, and_true, true_and, implies_true]
    exact gR_thrown h
  have ew : (nI w).toNatClampNeg = w := nI_clamp (by omega)
  have vw : vp_in (nI w) 8 := vp_in_nI hw (by decide)
  simp only [u_isSheet_in hw, v_isSheet_in hw, if0, if0n, if1, if1n, true_implies, not_true_eq_false, not_false_eq_true, false_implies, and_true, true_and, implies_true, ew]
  rcases ixc 3 (by decide) (x := x2) with c | ⟨l, hl, rfl⟩
  · have h2 : ∀ (σ : gT) (k : Int32 → gT → Prop), wX10_in x2.toInt64 (0 : Int64) (2 : Int64) σ k ↔ k 0 σ := fun σ k => v_outN (N := 3) (by decide) (by decide) rfl c
    simp only [u_below_out (b := 3) c, h2, if0, if0n, if1, if1n, true_implies, not_true_eq_false, not_false_eq_true, false_implies, and_true, true_and, implies_true]
    exact gR_thrown h
  have h1 : ∀ (σ : gT) (k : Int32 → gT → Prop), wX9_below (nI l) (3 : Int32) σ k ↔ k 1 σ := fun σ k => u_below_in (N := 3) hl (by decide)
  have h2 : ∀ (σ : gT) (k : Int32 → gT → Prop), wX10_in (nI l).toInt64 (0 : Int64) (2 : Int64) σ k ↔ k 1 σ := fun σ k => v_inN (N := 3) hl (by decide) rfl
  simp only [h1, h2, if0, if0n, if1, if1n, true_implies, not_true_eq_false, not_false_eq_true, false_implies, and_true, true_and, implies_true]
  refine ⟨fun c => ⟨fun c0 => ⟨vw, u_fill ?_⟩, fun c0 => ?_⟩, fun c => ?_⟩
  · refine ⟨fun _ => ⟨fun _ => ⟨vw, vw, v_sheet_loop hw ⟨rfl, ?_⟩⟩, fun z => absurd c0 z⟩, fun z => absurd c z⟩
    obtain ⟨n, hn, rfl⟩ := nI_of2 (x := x3) (M := 64) (n := 64) (by decide) (nlt_le.mpr c0) c
    refine ⟨?_, ?_, ?_, ?_, ?_, ?_, ?_⟩
    · intro s hs
      obtain ⟨q1, q2, q3, q4⟩ := h.1 s hs
      simp (disch := decide) only [gsu_f, gsu_s, gsu_e, gsl_f, gsl_g, gsl_s, gsl_e, gsu_g, grw_f, grw_g]
      by_cases e : s = w
      · subst e
        rw [gsu_e, gsu_e, gsu_e]
        simp (disch := decide) only [gsu_f, gsu_s, gsu_e, gsl_f, gsl_g, gsl_s, gsl_e, gsu_g, grw_f, grw_g]
        refine ⟨trivial, ?_, fun _ => ⟨n, hn, rfl, rfl⟩, fun j hj => ?_⟩
        · rcases (show l = 0 ∨ l = 1 ∨ l = 2 by omega) with z | z | z <;> subst z <;> decide
        · rw [grw_in hj]
          try simp (disch := decide) only [gsu_f, gsu_s, gsu_e, gsl_f, gsl_g, gsl_s, gsl_e, gsu_g, grw_f, grw_g]
          rw [grw_in0 hj]
      · rw [gsu_s (show s ≠ w from e), gsu_s (show s ≠ w from e), gsu_i (show s ≠ w from e), gsu_i (show s ≠ w from e), gsu_i (show s ≠ w from e)]
        simp (disch := decide) only [gsu_f, gsu_s, gsu_e, gsl_f, gsl_g, gsl_s, gsl_e, gsu_g, grw_f, grw_g]
        refine ⟨q1, q2, q3, fun j hj => ?_⟩
        rw [grw_out (by omega), grw_out (fun z => e z.1)]
        try simp (disch := decide) only [gsu_f, gsu_s, gsu_e, gsl_f, gsl_g, gsl_s, gsl_e, gsu_g, grw_f, grw_g]
        exact q4 j hj
    · repeat (first | rw [gRw_sr (by decide)] | rw [gRw_su (by decide)])
      exact h.2.1
    · repeat (first | rw [gRp_sr (by decide)] | rw [gRp_su (by decide)])
      exact h.2.2.1
    · repeat (first | rw [gRt_sr (by decide)] | rw [gRt_su (by decide)])
      exact h.2.2.2.1
    · repeat (first | rw [gRa_sr (by decide)] | rw [gRa_su (by decide)])
      exact h.2.2.2.2.1
    · repeat (first | rw [gRf_sr (by decide)] | rw [gRf_su (by decide)])
      exact h.2.2.2.2.2.1
    · unfold gRz
      simp (disch := decide) only [gsu_f, gsu_s, gsu_e, gsl_f, gsl_g, gsl_s, gsl_e, gsu_g, grw_f, grw_g]
  · exact ⟨fun _ => ⟨fun z => absurd z c0, fun _ => ⟨(by (repeat rw [gRs_su (by decide)]); exact h.1), (by (repeat rw [gRw_su (by decide)]); exact h.2.1), (by (repeat rw [gRp_su (by decide)]); exact h.2.2.1), (by (repeat rw [gRt_su (by decide)]); exact h.2.2.2.1), (by (repeat rw [gRa_su (by decide)]); exact h.2.2.2.2.1), (by (repeat rw [gRf_su (by decide)]); exact h.2.2.2.2.2.1), (by unfold gRz; simp (disch := decide) only [gsu_f, gsu_s, gsu_e])⟩⟩, fun z => absurd c z⟩
  · exact ⟨fun z => absurd z c, fun _ => gR_thrown h⟩
