/-! PURE: the model's step -/
def mK (k : Nat) : Nat := if k = 4 then 0 else k + 1
def gCm (b : Nat → Nat) (n : Nat) (τ : gT) : Prop := τ.1 10 0 12 = nI n ∧ n ≤ 400 ∧ ∀ q, q < n → b q < 256 ∧ τ.1 35 0 q = nI (b q)
def gF10 (σ τ : gT) : Prop := (∀ a, a ≠ 10 → τ.1 a = σ.1 a) ∧ ∀ c, c ≠ 13 → c ≠ 14 → c ≠ 15 → c ≠ 16 → τ.1 10 0 c = σ.1 10 0 c
theorem gF10.rf {σ : gT} : gF10 σ σ := ⟨fun _ _ => rfl, fun _ _ _ _ _ => rfl⟩
theorem gF10.tr {σ τ ρ : gT} (h : gF10 σ τ) (g : gF10 τ ρ) : gF10 σ ρ := ⟨fun a ha => (g.1 a ha).trans (h.1 a ha), fun c c1 c2 c3 c4 => (g.2 c c1 c2 c3 c4).trans (h.2 c c1 c2 c3 c4)⟩
theorem gF10.su {σ τ : gT} {j : Nat} {x : Int32} (h : gF10 σ τ) (hj : j = 13 ∨ j = 14 ∨ j = 15 ∨ j = 16) : gF10 σ (gsu τ 10 0 j x) := ⟨fun a ha => by rw [gsu_fam ha]; exact h.1 a ha, fun c c1 c2 c3 c4 => by rw [gsu_s (by omega)]; exact h.2 c c1 c2 c3 c4⟩
theorem gCm.fr {b : Nat → Nat} {n : Nat} {σ τ : gT} (h : gCm b n σ) (g : gF10 σ τ) : gCm b n τ := ⟨(g.2 12 (by decide) (by decide) (by decide) (by decide)).trans h.1, h.2.1, fun q hq => ⟨(h.2.2 q hq).1, by rw [g.1 35 (by decide)]; exact (h.2.2 q hq).2⟩⟩
def bA (b : Nat → Nat) (n q : Nat) : Int32 := if n ≤ q then -1000000 else nI (b q)
set_option maxHeartbeats 1000000 in
theorem v_byteAt {b : Nat → Nat} {n q : Nat} {τ : gT} {k : Int32 → gT → Prop} (hC : gCm b n τ) (hq : q ≤ n) (h : k (bA b n q) τ) : wX10_byteAt (nI q) τ k := by
  have hn := hC.2.1
  unfold wX10_byteAt
  unfold bA at h
  rw [hC.1]
  refine ⟨fun c => ?_, fun c => ?_⟩
  · rw [nI_leI (by omega) (by omega)] at c
    rw [if_pos c] at h
    exact h
  · rw [nI_leI (by omega) (by omega)] at c
    rw [if_neg c] at h
    rw [nI_clamp (show q < 2 ^ 31 by omega), (hC.2.2 q (by omega)).2]
    exact ⟨vp_in_nI (by omega) (by decide), h⟩
set_option maxHeartbeats 1000000 in
theorem v_isL {b : Nat → Nat} {n q : Nat} {τ : gT} {k : Int32 → gT → Prop} (hb : q < n → b q < 256) (h : k (if n ≤ q then 0 else if cL b q = true then 1 else 0) τ) : wX10_isLetter (bA b n q) τ k := by
  unfold wX10_isLetter wX10_isLetter_16 bA
  by_cases c : n ≤ q
  · rw [if_pos c] at h ⊢
    exact ⟨fun _ => ⟨Or.inl rfl, h⟩, fun z => absurd (by decide) z⟩
  · have := hb (by omega)
    rw [if_neg c] at h ⊢
    unfold cL at h
    rw [show (97 : Int32) = nI 97 from rfl, show (122 : Int32) = nI 122 from rfl, nI_ltI (by omega) (by decide), nI_ltI (by decide) (by omega)]
    refine ⟨fun c1 => ⟨Or.inl rfl, ?_⟩, fun c1 => ⟨fun c2 => ⟨Or.inl rfl, ?_⟩, fun c2 => ⟨Or.inr rfl, ?_⟩⟩⟩
    · rw [if_neg (by rw [decide_eq_true_iff]; omega)] at h
      exact h
    · rw [if_neg (by rw [decide_eq_true_iff]; omega)] at h
      exact h
    · rw [if_pos (by rw [decide_eq_true_iff]; omega)] at h
      exact h
set_option maxHeartbeats 1000000 in
theorem v_isF {b : Nat → Nat} {n q : Nat} {τ : gT} {k : Int32 → gT → Prop} (hb : q < n → b q < 256) (h : k (if n ≤ q then 0 else if cF b q = true then 1 else 0) τ) : wX10_isFigure (bA b n q) τ k := by
  unfold wX10_isFigure wX10_isFigure_16 bA
  by_cases c : n ≤ q
  · rw [if_pos c] at h ⊢
    exact ⟨fun _ => ⟨Or.inl rfl, h⟩, fun z => absurd (by decide) z⟩
  · have := hb (by omega)
    rw [if_neg c] at h ⊢
    unfold cF at h
    rw [show (48 : Int32) = nI 48 from rfl, show (57 : Int32) = nI 57 from rfl, nI_ltI (by omega) (by decide), nI_ltI (by decide) (by omega)]
    refine ⟨fun c1 => ⟨Or.inl rfl, ?_⟩, fun c1 => ⟨fun c2 => ⟨Or.inl rfl, ?_⟩, fun c2 => ⟨Or.inr rfl, ?_⟩⟩⟩
    · rw [if_neg (by rw [decide_eq_true_iff]; omega)] at h
      exact h
    · rw [if_neg (by rw [decide_eq_true_iff]; omega)] at h
      exact h
    · rw [if_pos (by rw [decide_eq_true_iff]; omega)] at h
      exact h
set_option maxHeartbeats 1000000 in
theorem v_name {b : Nat → Nat} {n : Nat} {k : gT → Prop} : ∀ (m q : Nat) (τ : gT), n - q = m → q ≤ n → gCm b n τ → τ.1 10 0 13 = nI q → (∀ τ', gF10 τ τ' → τ'.1 10 0 15 = τ.1 10 0 15 → τ'.1 10 0 13 = nI (sk (cL b) n q) → τ'.1 10 0 16 = nI (sk (cL b) n q) → τ'.1 10 0 14 = 2 → k τ') → ∃ t, wX10_step_77 k t τ := by
  intro m
  have fin : ∀ (q : Nat) (τ : gT), sk (cL b) n q = q → τ.1 10 0 13 = nI q → (∀ τ', gF10 τ τ' → τ'.1 10 0 15 = τ.1 10 0 15 → τ'.1 10 0 13 = nI (sk (cL b) n q) → τ'.1 10 0 16 = nI (sk (cL b) n q) → τ'.1 10 0 14 = 2 → k τ') → wX10_step_196 k (gsu τ 10 0 14 2) := by
    intro q τ he h3 h
    rw [he] at h
    unfold wX10_step_196
    exact h _ ((gF10.rf.su (by decide)).su (by decide)) (by rw [gsu_s (by decide), gsu_s (by decide)]) (by rw [gsu_s (by decide), gsu_s (by decide)]; exact h3) (by rw [gsu_e, gsu_s (by decide)]; exact h3) (by rw [gsu_s (by decide), gsu_e])
  induction m with
  | zero =>
    intro q τ hm hq hC h3 h
    refine ⟨1, ?_⟩
    unfold wX10_step_77
    rw [h3]
    refine v_byteAt hC hq (v_isL (fun hq2 => (hC.2.2 q hq2).1) ?_)
    rw [if_pos (by omega)]
    exact ⟨fun _ => fin q τ (sk_end (by omega)) h3 h, fun z => absurd rfl z⟩
  | succ m ih =>
    intro q τ hm hq hC h3 h
    by_cases c : cL b q = true
    · obtain ⟨t, key⟩ := ih (q + 1) (gsu τ 10 0 13 (nI (q + 1))) (by omega) (by omega) (hC.fr (gF10.rf.su (by decide))) gsu_e (fun τ' f1 f2 f3 f4 f5 => h τ' ((gF10.rf.su (by decide)).tr f1) (f2.trans (gsu_s (by decide))) (by rw [sk_go (by omega) c]; exact f3) (by rw [sk_go (by omega) c]; exact f4) f5)
      refine ⟨t + 1, ?_⟩
      unfold wX10_step_77
      rw [h3]
      refine v_byteAt hC hq (v_isL (fun hq2 => (hC.2.2 q hq2).1) ?_)
      rw [if_neg (by omega), if_pos c, h3, nI_1]
      exact ⟨fun z => absurd z (by decide), fun _ => key⟩
    · refine ⟨1, ?_⟩
      unfold wX10_step_77
      rw [h3]
      refine v_byteAt hC hq (v_isL (fun hq2 => (hC.2.2 q hq2).1) ?_)
      rw [if_neg (by omega), if_neg c]
      exact ⟨fun _ => fin q τ (sk_no (by omega) c) h3 h, fun z => absurd rfl z⟩
set_option maxHeartbeats 1000000 in
theorem v_num {b : Nat → Nat} {n s : Nat} {k : gT → Prop} : ∀ (m q : Nat) (τ : gT), n - q = m → s ≤ q → q ≤ n → gCm b n τ → τ.1 10 0 13 = nI q → τ.1 10 0 15 = nI s → (∀ τ', gF10 τ τ' → τ'.1 10 0 15 = nI s → τ'.1 10 0 13 = nI (sk (cF b) n q) → τ'.1 10 0 16 = nI (sk (cF b) n q) → τ'.1 10 0 14 = (if sk (cF b) n q - s ≤ 5 then 3 else 0) → k τ') → ∃ t, wX10_step_119 k t τ := by
  intro m
  have fin : ∀ (q : Nat) (τ : gT), s ≤ q → q ≤ n → gCm b n τ → sk (cF b) n q = q → τ.1 10 0 13 = nI q → τ.1 10 0 15 = nI s → (∀ τ', gF10 τ τ' → τ'.1 10 0 15 = nI s → τ'.1 10 0 13 = nI (sk (cF b) n q) → τ'.1 10 0 16 = nI (sk (cF b) n q) → τ'.1 10 0 14 = (if sk (cF b) n q - s ≤ 5 then 3 else 0) → k τ') → (((τ.1 10 0 13) - (τ.1 10 0 15)) ≤ 5 → wX10_step_165 k 3 τ) ∧ (¬ ((τ.1 10 0 13) - (τ.1 10 0 15)) ≤ 5 → wX10_step_165 k 0 τ) := by
    intro q τ hs hq hC he h3 h5 h
    have hn := hC.2.1
    rw [he] at h
    unfold wX10_step_165 wX10_step_196
    rw [h3, h5, pk_sub hs, show (5 : Int32) = nI 5 from rfl, nI_leI (by omega) (by decide)]
    refine ⟨fun c => ?_, fun c => ?_⟩
    · exact h _ ((gF10.rf.su (by decide)).su (by decide)) (by rw [gsu_s (by decide), gsu_s (by decide)]; exact h5) (by rw [gsu_s (by decide), gsu_s (by decide)]; exact h3) (by rw [gsu_e, gsu_s (by decide)]; exact h3) (by rw [gsu_s (by decide), gsu_e, if_pos c])
    · exact h _ ((gF10.rf.su (by decide)).su (by decide)) (by rw [gsu_s (by decide), gsu_s (by decide)]; exact h5) (by rw [gsu_s (by decide), gsu_s (by decide)]; exact h3) (by rw [gsu_e, gsu_s (by decide)]; exact h3) (by rw [gsu_s (by decide), gsu_e, if_neg c])
  induction m with
  | zero =>
    intro q τ hm hs hq hC h3 h5 h
    refine ⟨1, ?_⟩
    unfold wX10_step_119
    have hf := fin q τ hs hq hC (sk_end (by omega)) h3 h5 h
    rw [h3] at hf ⊢
    refine v_byteAt hC hq (v_isF (fun hq2 => (hC.2.2 q hq2).1) ?_)
    rw [if_pos (by omega), h3]
    exact ⟨fun _ => hf, fun z => absurd rfl z⟩
  | succ m ih =>
    intro q τ hm hs hq hC h3 h5 h
    by_cases c : cF b q = true
    · obtain ⟨t, key⟩ := ih (q + 1) (gsu τ 10 0 13 (nI (q + 1))) (by omega) (by omega) (by omega) (hC.fr (gF10.rf.su (by decide))) gsu_e (by rw [gsu_s (by decide)]; exact h5) (fun τ' f1 f2 f3 f4 f5 => h τ' ((gF10.rf.su (by decide)).tr f1) f2 (by rw [sk_go (by omega) c]; exact f3) (by rw [sk_go (by omega) c]; exact f4) (by rw [sk_go (by omega) c]; exact f5))
      refine ⟨t + 1, ?_⟩
      unfold wX10_step_119
      rw [h3]
      refine v_byteAt hC hq (v_isF (fun hq2 => (hC.2.2 q hq2).1) ?_)
      rw [if_neg (by omega), if_pos c, h3, nI_1]
      exact ⟨fun z => absurd z (by decide), fun _ => key⟩
    · refine ⟨1, ?_⟩
      unfold wX10_step_119
      have hf := fin q τ hs hq hC (sk_no (by omega) c) h3 h5 h
      rw [h3] at hf ⊢
      refine v_byteAt hC hq (v_isF (fun hq2 => (hC.2.2 q hq2).1) ?_)
      rw [if_neg (by omega), if_neg c, h3]
      exact ⟨fun _ => hf, fun z => absurd rfl z⟩
set_option maxHeartbeats 1000000 in
theorem v_tok {b : Nat → Nat} {n s : Nat} {τ : gT} {k : gT → Prop} (hC : gCm b n τ) (hs : s ≤ n) (h3 : τ.1 10 0 13 = nI s) (h : ∀ τ', gF10 τ τ' → τ'.1 10 0 15 = nI s → τ'.1 10 0 13 = nI (eS b n s) → τ'.1 10 0 16 = nI (eS b n s) → τ'.1 10 0 14 = nI (mK (kS b n s)) → k τ') : wX10_byteAt (nI s) (gsu τ 10 0 15 (nI s)) (fun r23 s22 => (¬ r23 = -1000000 → wX10_isLetter r23 s22 (fun r26 s25 => (r26 = 0 → wX10_isFigure r23 s25 (fun r29 s28 => (r29 = 0 → (¬ r23 = 59 → wX10_step_193 k 0 (gsu s28 10 0 13 ((s28.1 10 0 13) + 1))) ∧ (r23 = 59 → wX10_step_193 k 4 (gsu s28 10 0 13 ((s28.1 10 0 13) + 1)))) ∧ (¬ r29 = 0 → ∃ n32 : Nat, wX10_step_119 k n32 s28))) ∧ (¬ r26 = 0 → ∃ n34 : Nat, wX10_step_77 k n34 s25))) ∧ (r23 = -1000000 → wX10_step_196 k (gsu s22 10 0 14 1))) := by
  have hC' : gCm b n (gsu τ 10 0 15 (nI s)) := hC.fr (gF10.rf.su (by decide))
  have hn := hC.2.1
  refine v_byteAt hC' hs ?_
  by_cases ns : n ≤ s
  · unfold kS eS at h
    simp only [if_pos ns] at h
    unfold bA wX10_step_196
    rw [if_pos ns]
    refine ⟨fun z => absurd rfl z, fun _ => ?_⟩
    exact h _ (((gF10.rf.su (by decide)).su (by decide)).su (by decide)) (by rw [gsu_s (by decide), gsu_s (by decide), gsu_e]) (by rw [gsu_s (by decide), gsu_s (by decide), gsu_s (by decide)]; exact h3) (by rw [gsu_e, gsu_s (by decide), gsu_s (by decide)]; exact h3) (by rw [gsu_s (by decide), gsu_e]; rfl)
  · obtain ⟨b1, b2⟩ := hC.2.2 s (by omega)
    have ebA : bA b n s = nI (b s) := by unfold bA; rw [if_neg ns]
    have nb : ¬ bA b n s = -1000000 := by
      rw [ebA]
      intro z
      rw [fa_eq, nI_toInt (by omega)] at z
      have e1 : (-1000000 : Int32).toInt = -1000000 := by decide
      omega
    refine ⟨fun _ => v_isL (fun _ => b1) ?_, fun z => absurd z nb⟩
    unfold kS eS at h
    simp only [if_neg ns] at h
    rw [if_neg ns]
    by_cases cl : cL b s = true
    · simp only [if_pos cl] at h
      rw [if_pos cl]
      refine ⟨fun z => absurd z (by decide), fun _ => ?_⟩
      exact v_name (b := b) (n := n) (n - s) s _ rfl hs hC' (by rw [gsu_s (by decide)]; exact h3) (fun τ' f1 f2 f3 f4 f5 => h τ' ((gF10.rf.su (by decide)).tr f1) (f2.trans gsu_e) f3 f4 f5)
    · simp only [if_neg cl] at h
      rw [if_neg cl]
      refine ⟨fun _ => v_isF (fun _ => b1) ?_, fun z => absurd rfl z⟩
      rw [if_neg ns]
      by_cases cf : cF b s = true
      · simp only [if_pos cf] at h
        rw [if_pos cf]
        refine ⟨fun z => absurd z (by decide), fun _ => ?_⟩
        refine v_num (b := b) (n := n) (s := s) (n - s) s _ rfl (Nat.le_refl _) hs hC' (by rw [gsu_s (by decide)]; exact h3) gsu_e (fun τ' f1 f2 f3 f4 f5 => h τ' ((gF10.rf.su (by decide)).tr f1) f2 f3 f4 (f5.trans ?_))
        by_cases c6 : sk (cF b) n s - s ≤ 5
        · rw [if_pos c6, if_pos c6]; rfl
        · rw [if_neg c6, if_neg c6]; rfl
      · simp only [if_neg cf] at h
        rw [if_neg cf, ebA, show (59 : Int32) = nI 59 from rfl, nI_eq (by omega) (by decide), gsu_s (by decide), h3, nI_1]
        unfold wX10_step_193 wX10_step_196
        refine ⟨fun _ => ⟨fun c9 => ?_, fun c9 => ?_⟩, fun z => absurd rfl z⟩
        · simp only [if_neg c9] at h
          exact h _ ((((gF10.rf.su (by decide)).su (by decide)).su (by decide)).su (by decide)) (by rw [gsu_s (by decide), gsu_s (by decide), gsu_s (by decide), gsu_e]) (by rw [gsu_s (by decide), gsu_s (by decide), gsu_e]) (by rw [gsu_e, gsu_s (by decide), gsu_e]) (by rw [gsu_s (by decide), gsu_e]; rfl)
        · simp only [if_pos c9] at h
          exact h _ ((((gF10.rf.su (by decide)).su (by decide)).su (by decide)).su (by decide)) (by rw [gsu_s (by decide), gsu_s (by decide), gsu_s (by decide), gsu_e]) (by rw [gsu_s (by decide), gsu_s (by decide), gsu_e]) (by rw [gsu_e, gsu_s (by decide), gsu_e]) (by rw [gsu_s (by decide), gsu_e]; rfl)
set_option maxHeartbeats 1000000 in
theorem v_step {b : Nat → Nat} {n p : Nat} {τ : gT} {k : gT → Prop} (hC : gCm b n τ) (hp : p ≤ n) (h3 : τ.1 10 0 13 = nI p) (h : ∀ τ', gF10 τ τ' → τ'.1 10 0 15 = nI (tS b n p) → τ'.1 10 0 13 = nI (eS b n (tS b n p)) → τ'.1 10 0 16 = nI (eS b n (tS b n p)) → τ'.1 10 0 14 = nI (mK (kS b n (tS b n p))) → k τ') : wX10_step τ k := by
  unfold wX10_step tS at *
  have ne32 : ¬ (-1000000 : Int32) = 32 := by decide
  have ne10 : ¬ (-1000000 : Int32) = 10 := by decide
  have key : ∀ (m q : Nat) (ρ : gT), n - q = m → q ≤ n → gF10 τ ρ → ρ.1 10 0 13 = nI q → sk (cW b) n q = sk (cW b) n p → ∃ t, wX10_step_0 k t ρ := by
    intro m
    induction m with
    | zero =>
      intro q ρ hm hq hF h2 he
      have hC' := hC.fr hF
      refine ⟨1, ?_⟩
      unfold wX10_step_0
      have eb : bA b n q = -1000000 := if_pos (by omega)
      rw [sk_end (by omega)] at he
      rw [← he] at h
      rw [h2]
      refine v_byteAt hC' hq ?_
      rw [eb, h2]
      refine ⟨fun z => absurd z ne32, fun _ => v_byteAt hC' hq ?_⟩
      rw [eb, h2, gsu_s (by decide), h2]
      exact ⟨fun _ => v_tok hC' hq h2 (fun τ' f1 => h τ' (hF.tr f1)), fun z => absurd z ne10⟩
    | succ m ih =>
      intro q ρ hm hq hF h2 he
      have hn := hC.2.1
      have hC' := hC.fr hF
      obtain ⟨b1, b2⟩ := hC'.2.2 q (by omega)
      have eb : bA b n q = nI (b q) := if_neg (by omega)
      have s1 : nI (b q) = 32 ↔ b q = 32 := by rw [show (32 : Int32) = nI 32 from rfl, nI_eq (by omega) (by decide)]
      have s2 : nI (b q) = 10 ↔ b q = 10 := by rw [show (10 : Int32) = nI 10 from rfl, nI_eq (by omega) (by decide)]
      by_cases c : cW b q = true
      · obtain ⟨t, kk⟩ := ih (q + 1) (gsu ρ 10 0 13 (nI (q + 1))) (by omega) (by omega) (hF.su (by decide)) gsu_e (by rw [← he, sk_go (by omega) c])
        refine ⟨t + 1, ?_⟩
        have cc := of_decide_eq_true c
        unfold wX10_step_0 wX10_step_26
        rw [h2]
        refine v_byteAt hC' hq ?_
        rw [eb, s1, h2, nI_1]
        refine ⟨fun _ => kk, fun c1 => v_byteAt hC' hq ?_⟩
        rw [eb, s2, h2, nI_1]
        exact ⟨fun c2 => absurd cc (fun z => z.elim c1 c2), fun _ => kk⟩
      · refine ⟨1, ?_⟩
        have cc : ¬ (b q = 32 ∨ b q = 10) := fun z => c (decide_eq_true z)
        rw [sk_no (by omega) c] at he
        rw [← he] at h
        unfold wX10_step_0
        rw [h2]
        refine v_byteAt hC' hq ?_
        rw [eb, s1, h2]
        refine ⟨fun z => absurd (Or.inl z) cc, fun c1 => v_byteAt hC' hq ?_⟩
        rw [eb, s2, h2, gsu_s (by decide), h2]
        exact ⟨fun _ => v_tok hC' hq h2 (fun τ' f1 => h τ' (hF.tr f1)), fun z => absurd (Or.inr z) cc⟩
  exact key (n - p) p _ rfl hp gF10.rf h3 rfl
