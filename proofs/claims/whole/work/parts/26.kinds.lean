/-! PURE: counting over the 16 grains, kinds -/
set_option maxHeartbeats 1000000 in
theorem u_white {i : Nat} {σ : gT} {k : Int32 → gT → Prop} (h : k (nI (gct (fun q => decide (σ.1 17 i q = 255)) 16)) σ) : wX3_whiteOnes i σ k := by
  have key : ∀ m j, j + m = 16 → wX3_whiteOnes_4 k (m + 1) i (nI (gct (fun q => decide (σ.1 17 i q = 255)) j)) (nI j) σ := by
    intro m
    induction m with
    | zero =>
      intro j hj
      have hz : j = 16 := by omega
      subst hz
      unfold wX3_whiteOnes_4
      exact ⟨fun _ => h, fun z => absurd (by decide) z⟩
    | succ m ih =>
      intro j hj
      have hj16 : j < 16 := by omega
      have hn := ih (j + 1) (by omega)
      rw [gct_s] at hn
      unfold wX3_whiteOnes_4 wX3_whiteOnes_25
      rw [nI_clamp (show j < 2 ^ 31 by omega), nI_1, nI_1]
      refine ⟨fun z => absurd z (nI_ge (b := 16) hj16 (by decide)), fun _ => ⟨vp_in_nI hj16 (by decide), fun c1 => ?_, fun c1 => ?_⟩⟩
      · rw [if_neg (by simpa using c1)] at hn
        exact hn
      · rw [if_pos (by simpa using c1)] at hn
        exact hn
  exact ⟨17, key 16 0 rfl⟩
theorem u_whites {i : Nat} {σ : gT} {k : Int32 → gT → Prop} (hL : gLs σ i) (h : k (nI (gct (fun q => decide (gpg σ i q = 255)) 16)) σ) : wX3_whiteOnes i σ k := by
  refine u_white ?_
  have e : gct (fun q => decide (σ.1 17 i q = 255)) 16 = gct (fun q => decide (gpg σ i q = 255)) 16 := gct_cong (fun j hj => by
    rw [hL.2 j hj]
    exact decide_eq_decide.mpr (gshw_255 _))
  rw [e]
  exact h
set_option maxHeartbeats 1000000 in
theorem v_lostOn {p : Nat} {g : Nat → Int32} {σ : gT} {k : Int32 → gT → Prop} (hp : p < 6) (hg : ∀ q, q < 16 → σ.1 37 0 (16 * p + q) = g q) (h : k (nI (gct (fun q => decide (g q = -1)) 16)) σ) : wX10_lostOn (nI p) σ k := by
  have key : ∀ m j, j + m = 16 → wX10_lostOn_4 k (m + 1) (nI p) (nI (gct (fun q => decide (g q = -1)) j)) (nI j) σ := by
    intro m
    induction m with
    | zero =>
      intro j hj
      have hz : j = 16 := by omega
      subst hz
      unfold wX10_lostOn_4
      exact ⟨fun _ => h, fun z => absurd (by decide) z⟩
    | succ m ih =>
      intro j hj
      have hj16 : j < 16 := by omega
      have hn := ih (j + 1) (by omega)
      rw [gct_s] at hn
      unfold wX10_lostOn_4 wX10_lostOn_31
      rw [ix16, nI_clamp (show 16 * p + j < 2 ^ 31 by omega), nI_1, hg j hj16]
      refine ⟨fun z => absurd z (nI_ge (b := 16) hj16 (by decide)), fun _ => ⟨vp_in_nI (by omega) (by decide), fun c1 => ?_, fun c1 => ?_⟩⟩
      · rw [if_neg (by simpa using c1)] at hn
        rw [show (0 : Int32) = nI 0 from rfl, nI_add]
        exact hn
      · rw [if_pos (by simpa using c1)] at hn
        rw [nI_1]
        exact hn
  exact ⟨17, key 16 0 rfl⟩
/-- the kind that a row of grains tells -/
def gkd (g : Nat → Int32) : Int32 := if 8 ≤ gct (fun q => decide (g q = -1)) 16 then 4 else if 0 < gct (fun q => decide (g q = -1)) 16 then 3 else if gct (fun q => decide (g q = 255)) 16 = 0 then 2 else 1
theorem gkd_cong {g f : Nat → Int32} (h : ∀ q, q < 16 → g q = f q) : gkd g = gkd f := by
  unfold gkd
  rw [gct_cong (fun j hj => by rw [h j hj] : ∀ j, j < 16 → decide (g j = -1) = decide (f j = -1)), gct_cong (fun j hj => by rw [h j hj] : ∀ j, j < 16 → decide (g j = 255) = decide (f j = 255))]
set_option maxHeartbeats 1000000 in
theorem u_kindTold {i : Nat} {σ : gT} {k : Int32 → gT → Prop} (hL : gLs σ i) (h : k (gkd (gpg σ i)) σ) : wX3_kindTold i σ k := by
  unfold wX3_kindTold
  have hl := gct_le (fun q => decide (gpg σ i q = -1)) 16
  have hw := gct_le (fun q => decide (gpg σ i q = 255)) 16
  unfold gkd at h
  refine ⟨fun c => u_whites hL ⟨fun c2 => ?_, fun c2 => ?_⟩, fun c => u_lostOnes hL ⟨fun c2 => ?_, fun c2 => ?_⟩⟩
  · rw [u_lost0 hL] at c
    rw [if_neg (by omega), if_neg (by omega), if_neg (fun z => c2 (by rw [z]; rfl))] at h
    exact h
  · rw [u_lost0 hL] at c
    rw [show (0 : Int32) = nI 0 from rfl, nI_eq (by omega) (by decide)] at c2
    rw [if_neg (by omega), if_neg (by omega), if_pos c2] at h
    exact h
  · rw [u_lost0 hL] at c
    rw [fa_lt, nI_toInt (by omega)] at c2
    have c2 : (gct (fun q => decide (gpg σ i q = -1)) 16 : Int) < 8 := c2
    rw [if_neg (by omega), if_pos (by omega)] at h
    exact h
  · rw [fa_lt, nI_toInt (by omega)] at c2
    have c2 : ¬ (gct (fun q => decide (gpg σ i q = -1)) 16 : Int) < 8 := c2
    rw [if_pos (by omega)] at h
    exact h
set_option maxHeartbeats 1000000 in
theorem v_kindOf {p : Nat} {g : Nat → Int32} {σ : gT} {k : Int32 → gT → Prop} (hp : p < 6) (hg : ∀ q, q < 16 → σ.1 37 0 (16 * p + q) = g q) (hr : ∀ q, q < 16 → g q = -1 ∨ ∃ n, n ≤ 255 ∧ g q = nI n) (h : k (gkd g) σ) : wX10_kindOf (nI p) σ k := by
  unfold wX10_kindOf
  refine v_lostOn hp hg ?_
  have hl := gct_le (fun q => decide (g q = -1)) 16
  have key : ∀ m j, j + m = 16 → wX10_kindOf_11 k (m + 1) (nI p) (nI (gct (fun q => decide (g q = -1)) 16)) (if gct (fun q => decide (g q = 255)) j = 0 then 1 else 0) (nI j) σ := by
    intro m
    induction m with
    | zero =>
      intro j hj
      have hz : j = 16 := by omega
      subst hz
      unfold wX10_kindOf_11
      refine ⟨fun _ => ⟨fun c => ⟨fun c2 => ⟨fun c3 => ?_, fun c3 => ?_⟩, fun c2 => ?_⟩, fun c => ?_⟩, fun z => absurd (by decide) z⟩
      · rw [fa_le, nI_toInt (by omega)] at c2
        have c2 : (gct (fun q => decide (g q = -1)) 16 : Int) ≤ 0 := c2
        unfold gkd at h
        rw [if_neg (by omega), if_neg (by omega), if_neg (fun z => by rw [if_pos z] at c3; exact absurd c3 (by decide))] at h
        exact h
      · rw [fa_le, nI_toInt (by omega)] at c2
        have c2 : (gct (fun q => decide (g q = -1)) 16 : Int) ≤ 0 := c2
        unfold gkd at h
        by_cases z : gct (fun q => decide (g q = 255)) 16 = 0
        · rw [if_neg (by omega), if_neg (by omega), if_pos z] at h
          exact h
        · rw [if_neg z] at c3
          exact absurd rfl c3
      · rw [fa_le, nI_toInt (by omega)] at c c2
        have c2 : ¬ (gct (fun q => decide (g q = -1)) 16 : Int) ≤ 0 := c2
        have c : (gct (fun q => decide (g q = -1)) 16 : Int) ≤ 7 := c
        unfold gkd at h
        rw [if_neg (by omega), if_pos (by omega)] at h
        exact h
      · rw [fa_le, nI_toInt (by omega)] at c
        have c : ¬ (gct (fun q => decide (g q = -1)) 16 : Int) ≤ 7 := c
        unfold gkd at h
        rw [if_pos (by omega)] at h
        exact h
    | succ m ih =>
      intro j hj
      have hj16 : j < 16 := by omega
      have hn := ih (j + 1) (by omega)
      rw [gct_s _ j] at hn
      unfold wX10_kindOf_11 wX10_kindOf_44 wX10_kindOf_45
      rw [ix16, nI_clamp (show 16 * p + j < 2 ^ 31 by omega), nI_1, hg j hj16]
      have e255 : (255 : Int32).toInt = 255 := by decide
      have hc : (255 : Int32) ≤ g j ↔ g j = 255 := by
        rcases hr j hj16 with z | ⟨n, hn1, z⟩
        · rw [z]; decide
        · rw [z, fa_le, nI_toInt (by omega), show (255 : Int32) = nI 255 from rfl, nI_eq (by omega) (by decide), nI_toInt (by decide)]
          omega
      refine ⟨fun z => absurd z (nI_ge (b := 16) hj16 (by decide)), fun _ => ⟨fun c1 => ?_, fun c1 => ⟨vp_in_nI (by omega) (by decide), fun c2 => ?_, fun c2 => ?_⟩⟩⟩
      · have hz : ¬ gct (fun q => decide (g q = 255)) j = 0 := fun z => by rw [if_pos z] at c1; exact absurd c1 (by decide)
        rw [if_neg (by omega)] at hn
        exact hn
      · rw [hc] at c2
        rw [if_neg (by rw [if_pos (by simpa using c2)]; omega)] at hn
        exact hn
      · rw [hc] at c2
        have hz : gct (fun q => decide (g q = 255)) j = 0 := by
          by_cases z : gct (fun q => decide (g q = 255)) j = 0
          · exact z
          · rw [if_neg z] at c1; exact absurd rfl c1
        rw [if_pos (by rw [if_neg (by simpa using c2)]; omega)] at hn
        exact hn
  exact ⟨17, key 16 0 rfl⟩
set_option maxHeartbeats 1000000 in
theorem J_kind (x1 : Int32) {σ : gT} (h : gR σ) : wX9_kind x1 σ (fun r s1 => wX10_kind x1 s1 (fun r2 s2 => r = r2 ∧ gR s2)) := by
  unfold wX9_kind wX10_kind wX9_fine wX9_found
  rcases ixc 6 (by decide) (x := x1) with c | ⟨w, hw, rfl⟩
  · simp only [u_isPlate_out c, v_isPlate_out c, if0, if0n, if1, if1n, true_implies, not_true_eq_false, not_false_eq_true, false_implies, and_true, true_and, implies_true]
    exact gR_thrown h
  have ew : (nI w).toNatClampNeg = w := nI_clamp (by omega)
  have vw : vp_in (nI w) 6 := vp_in_nI hw (by decide)
  simp only [u_isPlate_in hw, v_isPlate_in hw, if0, if0n, if1, if1n, true_implies, not_true_eq_false, not_false_eq_true, false_implies, and_true, true_and, implies_true, ew]
  refine ⟨vw, ?_⟩
  obtain ⟨p1, ⟨n, hn, p2⟩, p3, p6⟩ := h.2.2.1 w hw
  have keep : gR (gsu (gsu (gsu σ 9 0 10 0) 10 0 0 0) 10 0 1 0) := ⟨(by (repeat rw [gRs_su (by decide)]); exact h.1), (by (repeat rw [gRw_su (by decide)]); exact h.2.1), (by (repeat rw [gRp_su (by decide)]); exact h.2.2.1), (by (repeat rw [gRt_su (by decide)]); exact h.2.2.2.1), (by (repeat rw [gRa_su (by decide)]); exact h.2.2.2.2.1), (by (repeat rw [gRf_su (by decide)]); exact h.2.2.2.2.2.1), (by unfold gRz; simp (disch := decide) only [gsu_f, gsu_s, gsu_e])⟩
  have keep1 : gR (gsu (gsu (gsu σ 9 0 10 1) 10 0 0 0) 10 0 1 1) := ⟨(by (repeat rw [gRs_su (by decide)]); exact h.1), (by (repeat rw [gRw_su (by decide)]); exact h.2.1), (by (repeat rw [gRp_su (by decide)]); exact h.2.2.1), (by (repeat rw [gRt_su (by decide)]); exact h.2.2.2.1), (by (repeat rw [gRa_su (by decide)]); exact h.2.2.2.2.1), (by (repeat rw [gRf_su (by decide)]); exact h.2.2.2.2.2.1), (by unfold gRz; simp (disch := decide) only [gsu_f, gsu_s, gsu_e])⟩
  by_cases m : σ.1 3 w 2 = 0
  · simp only [u_pmiss_y m, if0, if0n, if1, if1n, true_implies, not_true_eq_false, not_false_eq_true, false_implies, and_true, true_and, implies_true]
    rw [v_look_y hw (by simp (disch := decide) only [gsu_f, gsu_s, gsu_e, gsl_f, gsl_g, gsl_s, gsl_e, gsu_g]; rw [p1, m])]
    exact ⟨fun z => absurd z (by decide), fun _ => ⟨rfl, keep1⟩⟩
  · simp only [u_pmiss_n m, if0, if0n, if1, if1n, true_implies, not_true_eq_false, not_false_eq_true, false_implies, and_true, true_and, implies_true]
    refine ⟨vw, u_kindTold p6 ?_⟩
    rw [v_look_n hw (by simp (disch := decide) only [gsu_f, gsu_s, gsu_e, gsl_f, gsl_g, gsl_s, gsl_e, gsu_g]; rw [p1]; exact m)]
    refine ⟨fun _ => v_kindOf (g := gpg σ w) hw (fun q hq => ?_) (fun q hq => (p3 q hq).2) ⟨rfl, keep⟩, fun z => absurd (by decide) z⟩
    simp (disch := decide) only [gsu_f, gsu_s, gsu_e, gsl_f, gsl_g, gsl_s, gsl_e, gsu_g]
    exact (p3 q hq).1
theorem u_kindAbove {x : Int32} {σ : gT} {k : Int32 → gT → Prop} : wX3_kindAbove x σ k ↔ k (if x = 2 then 1 else if x = 4 then 3 else 0) σ := by
  unfold wX3_kindAbove
  have e2 : x.toInt = 2 ↔ x = 2 := by rw [fa_eq]; rfl
  have e4 : x.toInt = 4 ↔ x = 4 := by rw [fa_eq]; rfl
  rw [e2, e4]
  by_cases c2 : x = 2
  · rw [if_pos c2]; exact ⟨fun z => z.1 c2, fun z => ⟨fun _ => z, fun y => absurd c2 y⟩⟩
  · rw [if_neg c2]
    by_cases c4 : x = 4
    · rw [if_pos c4]; exact ⟨fun z => (z.2 c2).1 c4, fun z => ⟨fun y => absurd y c2, fun _ => ⟨fun _ => z, fun y => absurd c4 y⟩⟩⟩
    · rw [if_neg c4]; exact ⟨fun z => (z.2 c2).2 c4, fun z => ⟨fun y => absurd y c2, fun _ => ⟨fun y => absurd y c4, fun _ => z⟩⟩⟩
/-- a told kind is one of a kind -/
def gof (t o : Int32) : Int32 := if o = 0 ∨ t = o ∨ (o = 1 ∧ t = 2) ∨ (o = 3 ∧ t = 4) then 1 else 0
theorem gof01 (t o : Int32) : gof t o = 0 ∨ gof t o = 1 := by
  unfold gof
  split
  · exact Or.inr rfl
  · exact Or.inl rfl
set_option maxHeartbeats 1000000 in
theorem u_isOf {i : Nat} {o : Int32} {σ : gT} {k : Int32 → gT → Prop} (hL : gLs σ i) (h : k (gof (gkd (gpg σ i)) o) σ) : wX3_isOf i o σ k := by
  unfold wX3_isOf wX3_isOf_22
  refine u_kindTold hL ?_
  generalize gkd (gpg σ i) = t at h ⊢
  unfold gof at h
  refine ⟨fun c => ⟨Or.inr rfl, ?_⟩, fun c => ⟨fun c2 => ⟨Or.inr rfl, ?_⟩, fun c2 => u_kindAbove.mpr ⟨fun c3 => ⟨Or.inl rfl, ?_⟩, fun c3 => ⟨Or.inr rfl, ?_⟩⟩⟩⟩
  · rw [if_pos (Or.inl c)] at h; exact h
  · rw [if_pos (Or.inr (Or.inl c2.symm))] at h; exact h
  · rw [if_neg] at h
    · exact h
    · rintro (z | z | ⟨z, y⟩ | ⟨z, y⟩)
      · exact c z
      · exact c2 z.symm
      · rw [if_pos y] at c3; exact c3 z
      · subst y; exact c3 z
  · rw [if_pos] at h
    · exact h
    · by_cases y : t = 2
      · rw [if_pos y] at c3; exact Or.inr (Or.inr (Or.inl ⟨c3, y⟩))
      · rw [if_neg y] at c3
        by_cases y4 : t = 4
        · rw [if_pos y4] at c3; exact Or.inr (Or.inr (Or.inr ⟨c3, y4⟩))
        · rw [if_neg y4] at c3; exact absurd c3 c
set_option maxHeartbeats 1000000 in
theorem v_isOf {t o : Int32} {σ : gT} {k : Int32 → gT → Prop} (h : k (gof t o) σ) : wX10_isOf t o σ k := by
  unfold wX10_isOf wX10_isOf_29 wX10_isOf_19 wX10_isOf_33 wX10_isOf_29
  unfold gof at h
  refine ⟨fun c => ⟨Or.inr rfl, ?_⟩, fun c => ⟨fun c2 => ⟨Or.inr rfl, ?_⟩, fun c2 => ⟨fun c3 => ⟨fun c4 => ⟨Or.inl rfl, ?_⟩, fun c4 => ⟨fun c5 => ⟨Or.inl rfl, ?_⟩, fun c5 => ⟨Or.inr rfl, ?_⟩⟩⟩, fun c3 => ⟨fun c4 => ⟨Or.inr rfl, ?_⟩, fun c4 => ⟨fun c5 => ⟨Or.inl rfl, ?_⟩, fun c5 => ⟨fun c6 => ⟨Or.inl rfl, ?_⟩, fun c6 => ⟨Or.inr rfl, ?_⟩⟩⟩⟩⟩⟩⟩
  · rw [if_pos (Or.inl c)] at h; exact h
  · rw [if_pos (Or.inr (Or.inl c2))] at h; exact h
  · rw [if_neg] at h
    · exact h
    · rintro (z | z | ⟨z, y⟩ | ⟨z, y⟩)
      · exact c z
      · exact c2 z
      · exact c3 z
      · exact c4 z
  · rw [if_neg] at h
    · exact h
    · rintro (z | z | ⟨z, y⟩ | ⟨z, y⟩)
      · exact c z
      · exact c2 z
      · exact c3 z
      · exact c5 y
  · rw [if_pos (Or.inr (Or.inr (Or.inr ⟨c4, c5⟩)))] at h; exact h
  · rw [if_pos (Or.inr (Or.inr (Or.inl ⟨c3, c4⟩)))] at h; exact h
  · rw [if_neg] at h
    · exact h
    · rintro (z | z | ⟨z, y⟩ | ⟨z, y⟩)
      · exact c z
      · exact c2 z
      · exact c4 y
      · exact c5 z
  · rw [c3] at c5; exact absurd c5 (by decide)
  · rw [c3] at c5; exact absurd c5 (by decide)
set_option maxHeartbeats 1000000 in
theorem J_as (x1 x2 : Int32) {σ : gT} (h : gR σ) : wX9_as x1 x2 σ (fun r s1 => wX10_as x1 x2 s1 (fun r2 s2 => r = r2 ∧ gR s2)) := by
  unfold wX9_as wX10_as wX9_fine wX9_found wX10_finding
  rcases ixc 6 (by decide) (x := x1) with c | ⟨w, hw, rfl⟩
  · simp only [u_isPlate_out c, v_isPlate_out c, if0, if0n, if1, if1n, true_implies, not_true_eq_false, not_false_eq_true, false_implies, and_true, true_and, implies_true]
    exact gR_thrown h
  have ew : (nI w).toNatClampNeg = w := nI_clamp (by omega)
  have vw : vp_in (nI w) 6 := vp_in_nI hw (by decide)
  simp only [u_isPlate_in hw, v_isPlate_in hw, if0, if0n, if1, if1n, true_implies, not_true_eq_false, not_false_eq_true, false_implies, and_true, true_and, implies_true, ew]
  rcases ixc 5 (by decide) (x := x2) with c | ⟨j, hj, rfl⟩
  · have h2 : ∀ (σ : gT) (k : Int32 → gT → Prop), wX10_in x2.toInt64 (0 : Int64) (4 : Int64) σ k ↔ k 0 σ := fun σ k => v_outN (N := 5) (by decide) (by decide) rfl c
    simp only [h2, if0, if0n, if1, if1n, true_implies, not_true_eq_false, not_false_eq_true, false_implies, and_true, true_and, implies_true]
    rcases c with c | c
    · exact ⟨fun _ => gR_thrown h, fun z => absurd c z⟩
    · have c2 : ¬ x2 < 0 := by
        rw [fa_le, nI_toInt (by decide)] at c
        rw [fa_lt]
        have e0 : (0 : Int32).toInt = 0 := by decide
        omega
      have c3 : ¬ x2 ≤ 4 := by
        rw [fa_le, nI_toInt (by decide)] at c
        rw [fa_le]
        have e4 : (4 : Int32).toInt = 4 := by decide
        omega
      exact ⟨fun z => absurd z c2, fun _ => ⟨fun z => absurd z c3, fun _ => gR_thrown h⟩⟩
  have h2 : ∀ (σ : gT) (k : Int32 → gT → Prop), wX10_in (nI j).toInt64 (0 : Int64) (4 : Int64) σ k ↔ k 1 σ := fun σ k => v_inN (N := 5) hj (by decide) rfl
  have c2 : ¬ nI j < 0 := nI_pos (by omega)
  have c3 : nI j ≤ 4 := nI_le (b := 4) (by omega) (by decide)
  simp only [h2, if0, if0n, if1, if1n, true_implies, not_true_eq_false, not_false_eq_true, false_implies, and_true, true_and, implies_true]
  refine ⟨fun z => absurd z c2, fun _ => ⟨fun _ => ⟨vw, ?_⟩, fun z => absurd c3 z⟩⟩
  obtain ⟨p1, ⟨n, hn, p2⟩, p3, p6⟩ := h.2.2.1 w hw
  by_cases m : σ.1 3 w 2 = 0
  · simp only [u_pmiss_y m, if0, if0n, if1, if1n, true_implies, not_true_eq_false, not_false_eq_true, false_implies, and_true, true_and, implies_true]
    rw [v_look_y hw (by simp (disch := decide) only [gsu_f, gsu_s, gsu_e, gsl_f, gsl_g, gsl_s, gsl_e, gsu_g]; rw [p1, m])]
    exact ⟨fun z => absurd z (by decide), fun _ => ⟨rfl, ⟨(by (repeat rw [gRs_su (by decide)]); exact h.1), (by (repeat rw [gRw_su (by decide)]); exact h.2.1), (by (repeat rw [gRp_su (by decide)]); exact h.2.2.1), (by (repeat rw [gRt_su (by decide)]); exact h.2.2.2.1), (by (repeat rw [gRa_su (by decide)]); exact h.2.2.2.2.1), (by (repeat rw [gRf_su (by decide)]); exact h.2.2.2.2.2.1), (by unfold gRz; simp (disch := decide) only [gsu_f, gsu_s, gsu_e])⟩⟩⟩
  · simp only [u_pmiss_n m, if0, if0n, if1, if1n, true_implies, not_true_eq_false, not_false_eq_true, false_implies, and_true, true_and, implies_true]
    refine u_isOf p6 ?_
    have go : ∀ x : Int32, (gof (gkd (gpg σ w)) (nI j) = 0 → x = 3) → (¬ gof (gkd (gpg σ w)) (nI j) = 0 → x = 0) → ∀ r : Int32, (gof (gkd (gpg σ w)) (nI j) = 0 → r = -1000010 - 3) → (¬ gof (gkd (gpg σ w)) (nI j) = 0 → r = σ.1 3 w 2) → wX10_lookAt (nI w) (gsu (gsu σ 9 0 10 x) 10 0 0 0) fun r8 s7 => (0 ≤ r8 → wX10_kindOf (nI w) s7 fun r11 s10 => wX10_isOf r11 (nI j) s10 fun r14 s13 => (r14 = 0 → r = -1000010 - 3 ∧ gR (gsu s13 10 0 1 3)) ∧ (¬r14 = 0 → vp_in (nI w) 6 ∧ r = s13.1 36 0 w ∧ gR s13)) ∧ (¬0 ≤ r8 → r = r8 ∧ gR s7) := by
      intro x hx0 hx1 r hr0 hr1
      rw [v_look_n hw (by simp (disch := decide) only [gsu_f, gsu_s, gsu_e, gsl_f, gsl_g, gsl_s, gsl_e, gsu_g]; rw [p1]; exact m)]
      refine ⟨fun _ => v_kindOf (g := gpg σ w) hw (fun q hq => ?_) (fun q hq => (p3 q hq).2) (v_isOf ⟨fun z => ⟨hr0 z, ?_⟩, fun z => ⟨vw, ?_, ?_⟩⟩), fun z => absurd (by decide) z⟩
      · simp (disch := decide) only [gsu_f, gsu_s, gsu_e, gsl_f, gsl_g, gsl_s, gsl_e, gsu_g]
        exact (p3 q hq).1
      · rw [hx0 z]
        exact ⟨(by (repeat rw [gRs_su (by decide)]); exact h.1), (by (repeat rw [gRw_su (by decide)]); exact h.2.1), (by (repeat rw [gRp_su (by decide)]); exact h.2.2.1), (by (repeat rw [gRt_su (by decide)]); exact h.2.2.2.1), (by (repeat rw [gRa_su (by decide)]); exact h.2.2.2.2.1), (by (repeat rw [gRf_su (by decide)]); exact h.2.2.2.2.2.1), (by unfold gRz; simp (disch := decide) only [gsu_f, gsu_s, gsu_e])⟩
      · simp (disch := decide) only [gsu_f, gsu_s, gsu_e, gsl_f, gsl_g, gsl_s, gsl_e, gsu_g]
        rw [hr1 z, p1]
      · rw [hx1 z]
        exact ⟨(by (repeat rw [gRs_su (by decide)]); exact h.1), (by (repeat rw [gRw_su (by decide)]); exact h.2.1), (by (repeat rw [gRp_su (by decide)]); exact h.2.2.1), (by (repeat rw [gRt_su (by decide)]); exact h.2.2.2.1), (by (repeat rw [gRa_su (by decide)]); exact h.2.2.2.2.1), (by (repeat rw [gRf_su (by decide)]); exact h.2.2.2.2.2.1), (by unfold gRz; simp (disch := decide) only [gsu_f, gsu_s, gsu_e])⟩
    exact ⟨fun z => by have q := go 3 (fun _ => rfl) (fun y => absurd z y) (-1000010 - 3) (fun _ => rfl) (fun y => absurd z y); simp only [true_and] at q; exact q, fun z => go 0 (fun y => absurd y z) (fun _ => rfl) _ (fun y => absurd y z) (fun _ => rfl)⟩
