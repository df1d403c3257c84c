/-! PURE: a wave becomes what the draft has, if all parts fit -/
def gfit (A B : Nat → Int64) : Prop := ∀ q, q < 16 → (-1000000 ≤ (A q).toInt ∧ (A q).toInt ≤ 1000000) ∧ (-1000000 ≤ (B q).toInt ∧ (B q).toInt ≤ 1000000)
/-- no part is the least long (whose size is no long) -/
def gsm (A B : Nat → Int64) : Prop := ∀ q, q < 16 → -9000000000000000000 ≤ (A q).toInt ∧ -9000000000000000000 ≤ (B q).toInt
/-- the class's wave w, written -/
def gw9 (σ : gT) (w : Nat) (A B : Nat → Int64) (n : Nat) : gT := grw (grw σ 23 w 0 (fun q => (A q).toInt32) n) 24 w 0 (fun q => (B q).toInt32) n
def gw10 (σ : gT) (w : Nat) (A B : Nat → Int64) (n : Nat) : gT := grw (grw σ 31 0 (16 * w) (fun q => (A q).toInt32) n) 32 0 (16 * w) (fun q => (B q).toInt32) n
theorem grw2_s {σ : gT} {f f2 i o n : Nat} {g g2 : Nat → Int32} (hf : f ≠ f2) : gsu (gsu (grw (grw σ f i o g n) f2 i o g2 n) f i (o + n) (g n)) f2 i (o + n) (g2 n) = grw (grw σ f i o g (n + 1)) f2 i o g2 (n + 1) := by
  rw [← grw_s (σ := grw σ f i o g (n + 1)), ← grw_s (σ := σ)]
  refine Prod.ext ?_ rfl
  funext a b c
  by_cases ha : a = f2
  · subst ha
    simp only [gsu_1, grw, Ne.symm hf, false_and, if_false]
  · simp only [gsu_1, grw, ha, false_and, if_false]
theorem e1m : (1000000 : Int64).toInt = 1000000 := by decide
theorem u_abs {y : Int64} {σ : gT} {k : Int64 → gT → Prop} (h : k (if 0 ≤ y.toInt then y else -y) σ) : wJ9_abs_067f4 y σ k := by
  unfold wJ9_abs_067f4
  rw [cmp_ge0, fa_le64]
  refine ⟨fun c => ?_, fun c => ?_⟩
  · have c : 0 ≤ y.toInt := c
    rw [if_pos c] at h; exact h
  · have c : ¬ 0 ≤ y.toInt := c
    rw [if_neg c] at h; exact h
theorem abs_le {y : Int64} (h : -9000000000000000000 ≤ y.toInt) : (1000000 : Int64) < (if 0 ≤ y.toInt then y else -y) ↔ ¬ (-1000000 ≤ y.toInt ∧ y.toInt ≤ 1000000) := by
  have hu := Int64.toInt_lt y
  by_cases c : 0 ≤ y.toInt
  · rw [if_pos c, fa_lt64, e1m]
    omega
  · rw [if_neg c, fa_lt64, e1m]
    have e : (-y).toInt = -y.toInt := by
      rw [Int64.toInt_neg, Int.bmod_def]
      omega
    rw [e]
    omega
set_option maxHeartbeats 1000000 in
theorem u_settle {w : Nat} {A B : Nat → Int64} {σ : gT} {k : Int32 → gT → Prop} (hA : ∀ q, q < 16 → σ.2 12 0 q = A q ∧ σ.2 13 0 q = B q) (hm : gsm A B) (hy : gfit A B → k 1 (gw9 σ w A B 16)) (hn : ¬ gfit A B → k 0 σ) : wX1_settle w σ k := by
  have fin : gfit A B → ∀ m j, j + m = 16 → wX1_settle_50 k (m + 1) w (nI j) (gw9 σ w A B j) := by
    intro hf m
    induction m with
    | zero =>
      intro j hj
      have hz : j = 16 := by omega
      subst hz
      unfold wX1_settle_50
      exact ⟨fun _ => ⟨Or.inr rfl, hy hf⟩, fun z => absurd (by decide) z⟩
    | succ m ih =>
      intro j hj
      have hq := ih (j + 1) (by omega)
      have v : vp_in (nI j) 16 := vp_in_nI (by omega) (by decide)
      unfold wX1_settle_50
      rw [nI_clamp (show j < 2 ^ 31 by omega), nI_1]
      refine ⟨fun z => absurd z (nI_ge (b := 16) (by omega) (by decide)), fun _ => ⟨v, v, v, v, ?_⟩⟩
      have e1 : (gw9 σ w A B j).2 12 0 j = A j := (hA j (by omega)).1
      have e2 : (gsu (gw9 σ w A B j) 23 w j ((gw9 σ w A B j).2 12 0 j).toInt32).2 13 0 j = B j := (hA j (by omega)).2
      rw [e2, e1]
      have e := grw2_s (σ := σ) (f := 23) (f2 := 24) (i := w) (o := 0) (n := j) (g := fun q => (A q).toInt32) (g2 := fun q => (B q).toInt32) (by decide)
      rw [Nat.zero_add] at e
      unfold gw9
      rw [e]
      exact hq
  have key : ∀ m j, j + m = 16 → (∀ q, q < j → (-1000000 ≤ (A q).toInt ∧ (A q).toInt ≤ 1000000) ∧ (-1000000 ≤ (B q).toInt ∧ (B q).toInt ≤ 1000000)) → wX1_settle_2 k (m + 1) w (nI j) σ := by
    intro m
    induction m with
    | zero =>
      intro j hj hq
      have hz : j = 16 := by omega
      subst hz
      unfold wX1_settle_2
      refine ⟨fun _ => ?_, fun z => absurd (by decide) z⟩
      have := fin hq 16 0 rfl
      unfold gw9 at this
      rw [grw_0, grw_0] at this
      exact ⟨17, this⟩
    | succ m ih =>
      intro j hj hq
      have v : vp_in (nI j) 16 := vp_in_nI (by omega) (by decide)
      unfold wX1_settle_2
      rw [nI_clamp (show j < 2 ^ 31 by omega), nI_1, (hA j (by omega)).1]
      refine ⟨fun z => absurd z (nI_ge (b := 16) (by omega) (by decide)), fun _ => ⟨v, u_abs ?_⟩⟩
      rw [cmp_gt0, abs_le (hm j (by omega)).1]
      refine ⟨fun c => ⟨Or.inl rfl, hn (fun z => c (z j (by omega)).1)⟩, fun c => ⟨v, ?_⟩⟩
      rw [(hA j (by omega)).2]
      refine u_abs ?_
      have ea := abs_le (hm j (by omega)).2
      rw [cmp_le0]
      refine ⟨fun c2 => ih (j + 1) (by omega) (fun q hq2 => ?_), fun c2 => ⟨Or.inl rfl, hn (fun z => ?_)⟩⟩
      · rcases Nat.lt_or_ge q j with z | z
        · exact hq q z
        · have hz : q = j := by omega
          subst hz
          refine ⟨Classical.not_not.mp c, Classical.not_not.mp (fun y => ?_)⟩
          have := ea.mpr y
          rw [fa_lt64] at this
          rw [fa_le64] at c2
          omega
      · have := ea.mp (by rw [fa_lt64]; rw [fa_le64] at c2; omega)
        exact this (z j (by omega)).2
  exact ⟨17, key 16 0 rfl (fun q hq => absurd hq (Nat.not_lt_zero q))⟩
set_option maxHeartbeats 1000000 in
theorem v_isMade {w : Nat} {A B : Nat → Int64} {σ : gT} {k : Int32 → gT → Prop} (hw : w < 8) (hA : ∀ q, q < 16 → σ.2 33 0 q = A q ∧ σ.2 34 0 q = B q) (hy : gfit A B → k 1 (gw10 σ w A B 16)) (hn : ¬ gfit A B → k 0 σ) : wX10_isMade (nI w) σ k := by
  have fin : gfit A B → ∀ m j, j + m = 16 → wX10_isMade_64 k (m + 1) (nI w) 1 (nI j) (gw10 σ w A B j) := by
    intro hf m
    induction m with
    | zero =>
      intro j hj
      have hz : j = 16 := by omega
      subst hz
      unfold wX10_isMade_64
      exact ⟨fun _ => ⟨Or.inr rfl, hy hf⟩, fun z => absurd (by decide) z⟩
    | succ m ih =>
      intro j hj
      have hq := ih (j + 1) (by omega)
      have v : vp_in (nI j) 16 := vp_in_nI (by omega) (by decide)
      have v2 : vp_in (nI (16 * w + j)) 128 := vp_in_nI (by omega) (by decide)
      unfold wX10_isMade_64
      rw [ix16, nI_clamp (show j < 2 ^ 31 by omega), nI_clamp (show 16 * w + j < 2 ^ 31 by omega), nI_1]
      refine ⟨fun z => absurd z (nI_ge (b := 16) (by omega) (by decide)), fun _ => ⟨fun z => absurd z (by decide), fun _ => ⟨v, v2, v, v2, ?_⟩⟩⟩
      have e1 : (gw10 σ w A B j).2 33 0 j = A j := (hA j (by omega)).1
      have e2 : (gsu (gw10 σ w A B j) 31 0 (16 * w + j) ((gw10 σ w A B j).2 33 0 j).toInt32).2 34 0 j = B j := (hA j (by omega)).2
      rw [e2, e1]
      have e := grw2_s (σ := σ) (f := 31) (f2 := 32) (i := 0) (o := 16 * w) (n := j) (g := fun q => (A q).toInt32) (g2 := fun q => (B q).toInt32) (by decide)
      unfold gw10
      rw [e]
      exact hq
  have key : ∀ m j, j + m = 16 → ∀ b : Int32, (b = 1 → ∀ q, q < j → (-1000000 ≤ (A q).toInt ∧ (A q).toInt ≤ 1000000) ∧ (-1000000 ≤ (B q).toInt ∧ (B q).toInt ≤ 1000000)) → (b = 0 → ¬ gfit A B) → (b = 0 ∨ b = 1) → wX10_isMade_4 k (m + 1) (nI w) b (nI j) σ := by
    intro m
    induction m with
    | zero =>
      intro j hj b h1 h0 hb
      have hz : j = 16 := by omega
      subst hz
      unfold wX10_isMade_4
      refine ⟨fun _ => ?_, fun z => absurd (by decide) z⟩
      rcases hb with rfl | rfl
      · refine ⟨1, ?_⟩
        unfold wX10_isMade_64
        exact ⟨fun z => absurd z (by decide), fun _ => ⟨fun _ => ⟨Or.inl rfl, hn (h0 rfl)⟩, fun z => absurd rfl z⟩⟩
      · have := fin (h1 rfl) 16 0 rfl
        unfold gw10 at this
        rw [grw_0, grw_0] at this
        exact ⟨17, this⟩
    | succ m ih =>
      intro j hj b h1 h0 hb
      have v : vp_in (nI j) 16 := vp_in_nI (by omega) (by decide)
      have f1 : (-1000000 : Int64).toInt = -1000000 := by decide
      unfold wX10_isMade_4 wX10_isMade_54 wX10_isMade_55
      rw [nI_clamp (show j < 2 ^ 31 by omega), nI_1, (hA j (by omega)).1]
      refine ⟨fun z => absurd z (nI_ge (b := 16) (by omega) (by decide)), fun _ => ⟨fun c => ih (j + 1) (by omega) 0 (fun z => absurd z (by decide)) (fun _ => h0 c) (Or.inl rfl), fun c => ⟨v, ?_⟩⟩⟩
      have hb1 : b = 1 := hb.resolve_left c
      by_cases c1 : -1000000 ≤ (A j).toInt ∧ (A j).toInt ≤ 1000000
      · rw [v_in_in (by rw [fa_le64, f1]; exact c1.1) (by rw [fa_le64, e1m]; exact c1.2)]
        refine ⟨fun z => absurd z (by decide), fun _ => ⟨v, ?_⟩⟩
        rw [(hA j (by omega)).2]
        by_cases c2 : -1000000 ≤ (B j).toInt ∧ (B j).toInt ≤ 1000000
        · rw [v_in_in (by rw [fa_le64, f1]; exact c2.1) (by rw [fa_le64, e1m]; exact c2.2)]
          refine ⟨fun z => absurd z (by decide), fun _ => ih (j + 1) (by omega) 1 (fun _ q hq => ?_) (fun z => absurd z (by decide)) (Or.inr rfl)⟩
          rcases Nat.lt_or_ge q j with z | z
          · exact h1 hb1 q z
          · have hz : q = j := by omega
            subst hz
            exact ⟨c1, c2⟩
        · rw [v_in_out (by rw [fa_lt64, fa_lt64, f1, e1m]; omega)]
          exact ⟨fun _ => ih (j + 1) (by omega) 0 (fun z => absurd z (by decide)) (fun _ z => c2 (z j (by omega)).2) (Or.inl rfl), fun z => absurd rfl z⟩
      · rw [v_in_out (by rw [fa_lt64, fa_lt64, f1, e1m]; omega)]
        exact ⟨fun _ => ih (j + 1) (by omega) 0 (fun z => absurd z (by decide)) (fun _ z => c1 (z j (by omega)).1) (Or.inl rfl), fun z => absurd rfl z⟩
  exact ⟨17, key 16 0 rfl 1 (fun _ q hq => absurd hq (Nat.not_lt_zero q)) (fun z => absurd z (by decide)) (Or.inr rfl)⟩
