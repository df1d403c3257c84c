/-! PURE: take -/
def gtkv (a b c d : Int32) (s : Int32) : Int64 := ((((a.toInt64 + c.toInt64) * (a.toInt64 + c.toInt64)) + ((b.toInt64 + d.toInt64) * (b.toInt64 + d.toInt64))) / s.toInt64)
def gtkg (v : Int64) : Int32 := if 255 < v.toInt then 255 else v.toInt32
theorem sq_nn (a : Int) : 0 ≤ a * a := by
  rw [← Int.natAbs_mul_self]
  exact Int.natCast_nonneg _
set_option maxHeartbeats 1000000 in
theorem gtkv_nn {a b c d s : Int32} {st : Nat} (hs : s = nI st) (h1 : st < 2 ^ 31) (ha : -1000000 ≤ a.toInt ∧ a.toInt ≤ 1000000) (hb : -1000000 ≤ b.toInt ∧ b.toInt ≤ 1000000) (hc : -1000000 ≤ c.toInt ∧ c.toInt ≤ 1000000) (hd : -1000000 ≤ d.toInt ∧ d.toInt ≤ 1000000) : 0 ≤ (gtkv a b c d s).toInt := by
  have x := add64 (i32_bd (M := 1000000) ha) (i32_bd (M := 1000000) hc) (by decide)
  have y := add64 (i32_bd (M := 1000000) hb) (i32_bd (M := 1000000) hd) (by decide)
  obtain ⟨x1, x2⟩ := mul64 x x (by decide)
  obtain ⟨y1, y2⟩ := mul64 y y (by decide)
  have nx := sq_nn (a.toInt64 + c.toInt64).toInt
  have ny := sq_nn (b.toInt64 + d.toInt64).toInt
  rw [← x1] at nx
  rw [← y1] at ny
  have hsum : 0 ≤ (((a.toInt64 + c.toInt64) * (a.toInt64 + c.toInt64)) + ((b.toInt64 + d.toInt64) * (b.toInt64 + d.toInt64))).toInt := by
    rw [Int64.toInt_add, Int.bmod_def]
    omega
  have hst : s.toInt64.toInt = st := by rw [hs, Int32.toInt_toInt64, nI_toInt h1]
  unfold gtkv
  rw [Int64.toInt_div_of_ne_right _ _ (fun z => by rw [fa_eq64, hst] at z; have e : (-1 : Int64).toInt = -1 := by decide
                                                   omega)]
  exact Int.tdiv_nonneg hsum (by omega)
theorem gtkg_r {v : Int64} (h : 0 ≤ v.toInt) : (∃ n, n ≤ 255 ∧ gtkg v = nI n) ∧ (gtkg v = 255 ↔ 255 ≤ v.toInt) := by
  unfold gtkg
  by_cases c : 255 < v.toInt
  · rw [if_pos c]
    exact ⟨⟨255, by decide, rfl⟩, ⟨fun _ => by omega, fun _ => rfl⟩⟩
  · rw [if_neg c]
    have e : v.toInt32.toInt = v.toInt := by rw [Int64.toInt_toInt32, Int.bmod_def]; omega
    have e255 : (255 : Int32).toInt = 255 := by decide
    refine ⟨⟨v.toInt.toNat, by omega, ?_⟩, ?_⟩
    · rw [fa_eq, e, nI_toInt (by omega)]; omega
    · rw [fa_eq, e, e255]; omega
set_option maxHeartbeats 1000000 in
theorem J_take (x1 x2 x3 x4 : Int32) {σ : gT} (h : gR σ) : wX9_take x1 x2 x3 x4 σ (fun r s1 => wX10_take x1 x2 x3 x4 s1 (fun r2 s2 => r = r2 ∧ gR s2)) := by
  unfold wX9_take wX10_take
  rcases ixc 6 (by decide) (x := x1) with c | ⟨p, hp, rfl⟩
  · simp only [u_isPlate_out c, v_isPlate_out c, if0, if0n, if1, if1n, true_implies, not_true_eq_false, not_false_eq_true, false_implies, and_true, true_and, implies_true]
    exact gR_thrown h
  have ep : (nI p).toNatClampNeg = p := nI_clamp (by omega)
  have vp : vp_in (nI p) 6 := vp_in_nI hp (by decide)
  simp only [u_isPlate_in hp, v_isPlate_in hp, if0, if0n, if1, if1n, true_implies, not_true_eq_false, not_false_eq_true, false_implies, and_true, true_and, implies_true, ep]
  rcases ixc 8 (by decide) (x := x2) with c | ⟨u, hu, rfl⟩
  · simp only [u_isWave_out c, v_isWave_out c, if0, if0n, if1, if1n, true_implies, not_true_eq_false, not_false_eq_true, false_implies, and_true, true_and, implies_true]
    exact gR_thrown h
  have eu : (nI u).toNatClampNeg = u := nI_clamp (by omega)
  have vu : vp_in (nI u) 8 := vp_in_nI hu (by decide)
  simp only [u_isWave_in hu, v_isWave_in hu, if0, if0n, if1, if1n, true_implies, not_true_eq_false, not_false_eq_true, false_implies, and_true, true_and, implies_true, eu]
  rcases ixc 8 (by decide) (x := x3) with c | ⟨w, hw, rfl⟩
  · simp only [u_isWave_out c, v_isWave_out c, if0, if0n, if1, if1n, true_implies, not_true_eq_false, not_false_eq_true, false_implies, and_true, true_and, implies_true]
    exact gR_thrown h
  have ew : (nI w).toNatClampNeg = w := nI_clamp (by omega)
  have vw : vp_in (nI w) 8 := vp_in_nI hw (by decide)
  simp only [u_isWave_in hw, v_isWave_in hw, if0, if0n, if1, if1n, true_implies, not_true_eq_false, not_false_eq_true, false_implies, and_true, true_and, implies_true, ew]
  have l1 : (1 : Int64).toInt = 1 := by decide
  have lm : (100000 : Int64).toInt = 100000 := by decide
  have i1 : (1 : Int32).toInt = 1 := by decide
  have im : (100000 : Int32).toInt = 100000 := by decide
  by_cases c : 1 ≤ x4.toInt ∧ x4.toInt ≤ 100000
  · have hin : ∀ (σ : gT) (k : Int32 → gT → Prop), wX10_in x4.toInt64 (1 : Int64) (100000 : Int64) σ k ↔ k 1 σ := fun σ k => v_in_in (by rw [fa_le64, l1, Int32.toInt_toInt64]; exact c.1) (by rw [fa_le64, lm, Int32.toInt_toInt64]; exact c.2)
    have c1 : ¬ x4 < 1 := by rw [fa_lt, i1]; omega
    have c2 : x4 ≤ 100000 := by rw [fa_le, im]; exact c.2
    have c3 : ¬ x4.toInt64 = 0 := by rw [fa_eq64, Int32.toInt_toInt64]; show ¬ x4.toInt = 0; omega
    have hst : x4 = nI x4.toInt.toNat := by rw [fa_eq, nI_toInt (by omega)]; omega
    simp only [hin, if0, if0n, if1, if1n, true_implies, not_true_eq_false, not_false_eq_true, false_implies, and_true, true_and, implies_true]
    refine ⟨fun z => absurd z c1, fun _ => ⟨fun _ => ⟨vp, vu, vw, ?_⟩, fun z => absurd c2 z⟩⟩
    unfold wX3_keepFringes wJ9_max_7cf53
    refine ⟨fun z => absurd z c1, fun _ => ?_⟩
    generalize hV : (fun q => gtkv (σ.1 23 u q) (σ.1 24 u q) (σ.1 23 w q) (σ.1 24 w q) x4) = V
    have nn : ∀ q, q < 16 → 0 ≤ (V q).toInt := by
      intro q hq
      obtain ⟨-, -, w1, w2⟩ := h.2.1 u hu q hq
      obtain ⟨-, -, w3, w4⟩ := h.2.1 w hw q hq
      rw [← hV]
      exact gtkv_nn hst (by omega) w1 w2 w3 w4
    have U : ∀ (k : gT → Prop), k (grw (gsu (gsu σ 3 p 2 x4) 3 p 1 0) 17 p 0 (fun q => gtkg (V q)) 16) → ∃ n, wX3_keepFringes_17 k n p u w 0 (gsu (gsu σ 3 p 2 x4) 3 p 1 0) := by
      intro k hk
      have key := gloop (N := 16) (fun m j => wX3_keepFringes_17 k m p u w (nI j) (grw (gsu (gsu σ 3 p 2 x4) 3 p 1 0) 17 p 0 (fun q => gtkg (V q)) j)) (by
        unfold wX3_keepFringes_17
        exact ⟨fun _ => hk, fun z => absurd (by decide) z⟩) (by
        intro n j hj hn
        have v : vp_in (nI j) 16 := vp_in_nI hj (by decide)
        unfold wX3_keepFringes_17 wX9_brightOf wJ9_min_f86c9
        rw [nI_clamp (show j < 2 ^ 31 by omega), nI_1]
        simp (disch := decide) only [gsu_f, gsu_s, gsu_e, gsl_f, gsl_g, gsl_s, gsl_e, gsu_g, grw_f, grw_g]
        have e := grw_s (σ := gsu (gsu σ 3 p 2 x4) 3 p 1 0) (f := 17) (i := p) (o := 0) (n := j) (g := fun q => gtkg (V q))
        rw [Nat.zero_add] at e
        rw [← e] at hn
        have ev : ((((σ.1 23 u j).toInt64 + (σ.1 23 w j).toInt64) * ((σ.1 23 u j).toInt64 + (σ.1 23 w j).toInt64)) + (((σ.1 24 u j).toInt64 + (σ.1 24 w j).toInt64) * ((σ.1 24 u j).toInt64 + (σ.1 24 w j).toInt64))) / x4.toInt64 = V j := by rw [← hV]; rfl
        rw [ev, cmp_gt0, fa_lt64, show (255 : Int64).toInt = 255 by decide]
        refine ⟨fun z => absurd z (nI_ge (b := 16) hj (by decide)), fun _ => ⟨v, v, v, v, c3, fun c4 => ⟨v, ?_⟩, fun c4 => ⟨v, ?_⟩⟩⟩
        · unfold gtkg at hn ⊢
          rw [if_pos c4] at hn
          exact hn
        · unfold gtkg at hn ⊢
          rw [if_neg c4] at hn
          exact hn)
      simp only [grw_0] at key
      exact key
    have W : ∀ (τ : gT) (k : Int32 → gT → Prop), (∀ v q, v < 8 → q < 16 → τ.1 31 0 (16 * v + q) = σ.1 23 v q ∧ τ.1 32 0 (16 * v + q) = σ.1 24 v q) → k (nI (gct (fun q => decide (255 ≤ (V q).toInt)) 16)) (grw τ 37 0 (16 * p) (fun q => gtkg (V q)) 16) → ∃ n, wX10_take_56 k n (nI p) (nI u) (nI w) x4 0 0 τ := by
      intro τ k t1 hk
      have key := gloop (N := 16) (fun m j => wX10_take_56 k m (nI p) (nI u) (nI w) x4 (nI (gct (fun q => decide (255 ≤ (V q).toInt)) j)) (nI j) (grw τ 37 0 (16 * p) (fun q => gtkg (V q)) j)) (by
        unfold wX10_take_56
        exact ⟨fun _ => hk, fun z => absurd (by decide) z⟩) (by
        intro n j hj hn
        unfold wX10_take_56 wX10_take_167 wX10_take_184
        rw [ix16, ix16, ix16, nI_clamp (show 16 * p + j < 2 ^ 31 by omega), nI_clamp (show 16 * u + j < 2 ^ 31 by omega), nI_clamp (show 16 * w + j < 2 ^ 31 by omega), nI_1, nI_1]
        simp (disch := decide) only [gsu_f, gsu_s, gsu_e, gsl_f, gsl_g, gsl_s, gsl_e, gsu_g, grw_f, grw_g]
        rw [(t1 u j hu hj).1, (t1 u j hu hj).2, (t1 w j hw hj).1, (t1 w j hw hj).2]
        have v1 : vp_in (nI (16 * u + j)) 128 := vp_in_nI (by omega) (by decide)
        have v2 : vp_in (nI (16 * w + j)) 128 := vp_in_nI (by omega) (by decide)
        have v3 : vp_in (nI (16 * p + j)) 96 := vp_in_nI (by omega) (by decide)
        have e := grw_s (σ := τ) (f := 37) (i := 0) (o := 16 * p) (n := j) (g := fun q => gtkg (V q))
        rw [← e, gct_s] at hn
        have ev : ((((σ.1 23 u j).toInt64 + (σ.1 23 w j).toInt64) * ((σ.1 23 u j).toInt64 + (σ.1 23 w j).toInt64)) + (((σ.1 24 u j).toInt64 + (σ.1 24 w j).toInt64) * ((σ.1 24 u j).toInt64 + (σ.1 24 w j).toInt64))) / x4.toInt64 = V j := by rw [← hV]; rfl
        rw [ev, cmp_le0, cmp_lt0, fa_lt64, fa_le64, show (255 : Int64).toInt = 255 by decide]
        have z0 : nI (gct (fun q => decide (255 ≤ (V q).toInt)) j) + 0 = nI (gct (fun q => decide (255 ≤ (V q).toInt)) j) := by rw [show (0 : Int32) = nI 0 from rfl, nI_add]; rfl
        rw [z0]
        refine ⟨fun z => absurd z (nI_ge (b := 16) hj (by decide)), fun _ => ⟨v1, v2, v1, v2, c3, fun c4 => ⟨v3, fun c5 => ?_, fun c5 => ?_⟩, fun c4 => ⟨v3, fun c5 => ?_, fun c5 => ?_⟩⟩⟩
        · rw [if_neg (by rw [decide_eq_true_iff]; omega)] at hn
          unfold gtkg at hn ⊢
          rw [if_neg (by omega)] at hn
          exact hn
        · rw [if_pos (by rw [decide_eq_true_iff]; omega)] at hn
          unfold gtkg at hn ⊢
          rw [if_neg (by omega)] at hn
          exact hn
        · omega
        · rw [if_pos (by rw [decide_eq_true_iff]; omega)] at hn
          unfold gtkg at hn ⊢
          rw [if_pos (by omega)] at hn
          exact hn)
      simp only [grw_0] at key
      exact key
    refine U _ ⟨vp, u_white ⟨vp, W _ _ (fun v q hv hq => ?_) ⟨?_, ?_⟩⟩⟩
    · simp (disch := decide) only [gsu_f, gsu_s, gsu_e, gsl_f, gsl_g, gsl_s, gsl_e, gsu_g, grw_f, grw_g]
      exact ⟨(h.2.1 v hv q hq).1, (h.2.1 v hv q hq).2.1⟩
    · congr 1
      refine gct_cong (fun j hj => ?_)
      rw [grw_in0 hj]
      have := (gtkg_r (nn j hj)).2
      by_cases c5 : 255 ≤ (V j).toInt
      · rw [decide_eq_true c5, decide_eq_true (this.mpr c5)]
      · rw [decide_eq_false c5, decide_eq_false (fun z => c5 (this.mp z))]
    · refine ⟨?_, ?_, ?_, ?_, ?_, ?_, ?_⟩
      · repeat (first | rw [gRs_sr (by decide)] | rw [gRs_su (by decide)])
        exact h.1
      · repeat (first | rw [gRw_sr (by decide)] | rw [gRw_su (by decide)])
        exact h.2.1
      · intro i hi
        obtain ⟨q1, q2, q3, ⟨m, hm, q4⟩, q5⟩ := h.2.2.1 i hi
        generalize hT : grw _ 37 0 (16 * p) (fun q => gtkg (V q)) 16 = τ
        have f36 : τ.1 36 0 i = if i = p then x4 else σ.1 36 0 i := by
          rw [← hT]
          simp (disch := decide) only [gsu_f, gsu_s, gsu_e, gsl_f, gsl_g, gsl_s, gsl_e, gsu_g, grw_f, grw_g]
          by_cases e : i = p
          · subst e
            rw [gsu_e, if_pos rfl]
          · rw [gsu_s e, if_neg e]
            simp (disch := decide) only [gsu_f, gsu_s, gsu_e, gsl_f, gsl_g, gsl_s, gsl_e, gsu_g, grw_f, grw_g]
        have f32 : τ.1 3 i 2 = if i = p then x4 else σ.1 3 i 2 := by
          rw [← hT]
          simp (disch := decide) only [gsu_f, gsu_s, gsu_e, gsl_f, gsl_g, gsl_s, gsl_e, gsu_g, grw_f, grw_g]
          by_cases e : i = p
          · subst e
            rw [gsu_e, if_pos rfl]
          · rw [gsu_i e, if_neg e]
        have f31 : τ.1 3 i 1 = if i = p then 0 else σ.1 3 i 1 := by
          rw [← hT]
          simp (disch := decide) only [gsu_f, gsu_s, gsu_e, gsl_f, gsl_g, gsl_s, gsl_e, gsu_g, grw_f, grw_g]
          by_cases e : i = p
          · subst e
            rw [gsu_e, if_pos rfl]
          · rw [gsu_i e, if_neg e]
            simp (disch := decide) only [gsu_f, gsu_s, gsu_e, gsl_f, gsl_g, gsl_s, gsl_e, gsu_g, grw_f, grw_g]
        have f17 : ∀ q, q < 16 → τ.1 17 i q = if i = p then gtkg (V q) else σ.1 17 i q := by
          intro q hq
          rw [← hT]
          simp (disch := decide) only [gsu_f, gsu_s, gsu_e, gsl_f, gsl_g, gsl_s, gsl_e, gsu_g, grw_f, grw_g]
          by_cases e : i = p
          · subst e
            rw [grw_in0 hq, if_pos rfl]
          · rw [grw_out (fun z => e z.1), if_neg e]
            simp (disch := decide) only [gsu_f, gsu_s, gsu_e, gsl_f, gsl_g, gsl_s, gsl_e, gsu_g, grw_f, grw_g]
        have f37 : ∀ q, q < 16 → τ.1 37 0 (16 * i + q) = if i = p then gtkg (V q) else σ.1 37 0 (16 * i + q) := by
          intro q hq
          rw [← hT]
          by_cases e : i = p
          · subst e
            rw [grw_in hq, if_pos rfl]
          · rw [grw_out (by omega), if_neg e]
            simp (disch := decide) only [gsu_f, gsu_s, gsu_e, gsl_f, gsl_g, gsl_s, gsl_e, gsu_g, grw_f, grw_g]
        clear hT
        by_cases e : i = p
        · simp only [if_pos e] at f36 f32 f31 f17 f37
          have g : ∀ q, q < 16 → gpg τ i q = gtkg (V q) := fun q hq => (gpg_0 hq f31).trans (f17 q hq)
          refine ⟨f36.trans f32.symm, ⟨x4.toInt.toNat, by omega, f32.trans hst⟩, fun q hq => ?_, ⟨0, by decide, f31⟩, fun q hq => ?_⟩
          · rw [f37 q hq, g q hq]
            exact ⟨rfl, Or.inr (gtkg_r (nn q hq)).1⟩
          · rw [f17 q hq, g q hq]
            obtain ⟨n, hn, en⟩ := (gtkg_r (nn q hq)).1
            unfold gshw
            rw [if_neg]
            rw [en, fa_eq, nI_toInt (by omega)]
            have e1 : (-1 : Int32).toInt = -1 := by decide
            omega
        · simp only [if_neg e] at f36 f32 f31 f17 f37
          have g : ∀ q, q < 16 → gpg τ i q = gpg σ i q := fun q hq => by
            unfold gpg
            rw [f31, f17 q hq]
          refine ⟨by rw [f36, f32]; exact q1, by rw [f32]; exact q2, fun q hq => ?_, ⟨m, hm, f31.trans q4⟩, fun q hq => ?_⟩
          · rw [f37 q hq, g q hq]; exact q3 q hq
          · rw [f17 q hq, g q hq]; exact q5 q hq
      · repeat (first | rw [gRt_sr (by decide)] | rw [gRt_su (by decide)])
        exact h.2.2.2.1
      · repeat (first | rw [gRa_sr (by decide)] | rw [gRa_su (by decide)])
        exact h.2.2.2.2.1
      · repeat (first | rw [gRf_sr (by decide)] | rw [gRf_su (by decide)])
        exact h.2.2.2.2.2.1
      · repeat (first | rw [gRz_sr (by decide)] | rw [gRz_su (by decide)])
        exact h.2.2.2.2.2.2
  · have hin : ∀ (σ : gT) (k : Int32 → gT → Prop), wX10_in x4.toInt64 (1 : Int64) (100000 : Int64) σ k ↔ k 0 σ := fun σ k => v_in_out (by rw [fa_lt64, fa_lt64, l1, lm, Int32.toInt_toInt64]; omega)
    simp only [hin, if0, if0n, if1, if1n, true_implies, not_true_eq_false, not_false_eq_true, false_implies, and_true, true_and, implies_true]
    refine ⟨fun _ => gR_thrown h, fun c1 => ⟨fun c2 => ?_, fun _ => gR_thrown h⟩⟩
    rw [fa_lt, i1] at c1
    rw [fa_le, im] at c2
    omega
