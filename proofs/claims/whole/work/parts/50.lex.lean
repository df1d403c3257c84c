/-! PURE: the tape cut into tokens; the class's next -/
def skf (P : Nat → Bool) : Nat → Nat → Nat
  | 0, p => p
  | m + 1, p => if P p = true then skf P m (p + 1) else p
def sk (P : Nat → Bool) (n p : Nat) : Nat := skf P (n - p) p
theorem sk_end {P : Nat → Bool} {n p : Nat} (h : n ≤ p) : sk P n p = p := by
  unfold sk
  rw [Nat.sub_eq_zero_of_le h]
  rfl
theorem sk_go {P : Nat → Bool} {n p : Nat} (h : p < n) (c : P p = true) : sk P n p = sk P n (p + 1) := by
  unfold sk
  rw [show n - p = (n - (p + 1)) + 1 by omega]
  exact if_pos c
theorem sk_no {P : Nat → Bool} {n p : Nat} (h : p < n) (c : ¬ P p = true) : sk P n p = p := by
  unfold sk
  rw [show n - p = (n - (p + 1)) + 1 by omega]
  exact if_neg c
set_option maxHeartbeats 1000000 in
theorem sk_all {P : Nat → Bool} {n : Nat} : ∀ (m p : Nat), n - p = m → p ≤ n → p ≤ sk P n p ∧ sk P n p ≤ n ∧ (∀ q, p ≤ q → q < sk P n p → P q = true) ∧ (sk P n p < n → ¬ P (sk P n p) = true)
  | 0, p, hm, hp => by
    rw [sk_end (by omega)]
    exact ⟨Nat.le_refl _, hp, fun q h1 h2 => absurd h2 (by omega), fun h => absurd h (by omega)⟩
  | m + 1, p, hm, hp => by
    by_cases c : P p = true
    · rw [sk_go (by omega) c]
      obtain ⟨h1, h2, h3, h4⟩ := sk_all (P := P) (n := n) m (p + 1) (by omega) (by omega)
      refine ⟨by omega, h2, fun q q1 q2 => ?_, h4⟩
      by_cases z : q = p
      · rw [z]; exact c
      · exact h3 q (by omega) q2
    · rw [sk_no (by omega) c]
      exact ⟨Nat.le_refl _, hp, fun q h1 h2 => absurd h2 (by omega), fun _ => c⟩
def cL (b : Nat → Nat) (q : Nat) : Bool := decide (97 ≤ b q ∧ b q ≤ 122)
def cF (b : Nat → Nat) (q : Nat) : Bool := decide (48 ≤ b q ∧ b q ≤ 57)
def cW (b : Nat → Nat) (q : Nat) : Bool := decide (b q = 32 ∨ b q = 10)
/-- kind and end of the token that begins at s -/
def kS (b : Nat → Nat) (n s : Nat) : Nat := if n ≤ s then 0 else if cL b s = true then 1 else if cF b s = true then (if sk (cF b) n s - s ≤ 5 then 2 else 4) else if b s = 59 then 3 else 4
def eS (b : Nat → Nat) (n s : Nat) : Nat := if n ≤ s then s else if cL b s = true then sk (cL b) n s else if cF b s = true then sk (cF b) n s else s + 1
def tS (b : Nat → Nat) (n p : Nat) : Nat := sk (cW b) n p
def dgv (b : Nat → Nat) (s : Nat) : Nat → Nat
  | 0 => 0
  | m + 1 => 10 * dgv b s m + b (s + m) - 48
theorem sb_c : ∀ c : Fin 256, ((nI c).toInt8.toInt32 = 32 ↔ (c : Nat) = 32) ∧ ((nI c).toInt8.toInt32 = 10 ↔ (c : Nat) = 10) ∧ ((nI c).toInt8.toInt32 = 59 ↔ (c : Nat) = 59) ∧ ((¬ (nI c).toInt8.toInt32 < 97 ∧ ¬ 122 < (nI c).toInt8.toInt32) ↔ (97 ≤ (c : Nat) ∧ (c : Nat) ≤ 122)) ∧ ((¬ (nI c).toInt8.toInt32 < 48 ∧ ¬ 57 < (nI c).toInt8.toInt32) ↔ (48 ≤ (c : Nat) ∧ (c : Nat) ≤ 57)) ∧ ((c : Nat) < 128 → (nI c).toInt8.toInt32 = nI c) := by decide +kernel
def gCb (b : Nat → Nat) (n : Nat) (τ : gT) : Prop := τ.1 7 0 1 = nI n ∧ n ≤ 400 ∧ ∀ q, q < n → b q < 256 ∧ τ.1 22 0 q = (nI (b q)).toInt8.toInt32
def gF7 (σ τ : gT) : Prop := (∀ a, a ≠ 7 → τ.1 a = σ.1 a) ∧ τ.1 7 0 1 = σ.1 7 0 1
theorem gF7.rf {σ : gT} : gF7 σ σ := ⟨fun _ _ => rfl, rfl⟩
theorem gF7.tr {σ τ ρ : gT} (h : gF7 σ τ) (g : gF7 τ ρ) : gF7 σ ρ := ⟨fun a ha => (g.1 a ha).trans (h.1 a ha), g.2.trans h.2⟩
theorem gF7.su {σ τ : gT} {j : Nat} {x : Int32} (h : gF7 σ τ) (hj : j ≠ 1) : gF7 σ (gsu τ 7 0 j x) := ⟨fun a ha => by rw [gsu_fam ha]; exact h.1 a ha, by rw [gsu_s (Ne.symm hj)]; exact h.2⟩
theorem gCb.fr {b : Nat → Nat} {n : Nat} {σ τ : gT} (h : gCb b n σ) (g : gF7 σ τ) : gCb b n τ := ⟨g.2.trans h.1, h.2.1, fun q hq => ⟨(h.2.2 q hq).1, by rw [g.1 22 (by decide)]; exact (h.2.2 q hq).2⟩⟩
set_option maxHeartbeats 1000000 in
theorem u_hasL {b : Nat → Nat} {n a : Nat} {τ : gT} {k : Int32 → gT → Prop} (hC : gCb b n τ) (ha : a < n) (h : k (if cL b a = true then 1 else 0) τ) : wX7_hasLetter (nI a) τ k := by
  obtain ⟨b1, b2⟩ := hC.2.2 a ha
  have hn := hC.2.1
  obtain ⟨-, -, -, s4, -, -⟩ := sb_c ⟨b a, b1⟩
  have v : vp_in (nI a) 400 := vp_in_nI (by omega) (by decide)
  unfold wX7_hasLetter wX7_hasLetter_26
  rw [nI_clamp (show a < 2 ^ 31 by omega), b2]
  unfold cL at h
  refine ⟨v, fun c => ⟨Or.inl rfl, ?_⟩, fun c => ⟨v, fun c2 => ⟨Or.inl rfl, ?_⟩, fun c2 => ⟨Or.inr rfl, ?_⟩⟩⟩
  · rw [if_neg (by rw [decide_eq_true_iff]; exact fun z => (s4.mpr z).1 c)] at h
    exact h
  · rw [if_neg (by rw [decide_eq_true_iff]; exact fun z => (s4.mpr z).2 c2)] at h
    exact h
  · rw [if_pos (by rw [decide_eq_true_iff]; exact s4.mp ⟨c, c2⟩)] at h
    exact h
set_option maxHeartbeats 1000000 in
theorem u_hasF {b : Nat → Nat} {n a : Nat} {τ : gT} {k : Int32 → gT → Prop} (hC : gCb b n τ) (ha : a < n) (h : k (if cF b a = true then 1 else 0) τ) : wX7_hasFigure (nI a) τ k := by
  obtain ⟨b1, b2⟩ := hC.2.2 a ha
  have hn := hC.2.1
  obtain ⟨-, -, -, -, s4, -⟩ := sb_c ⟨b a, b1⟩
  have v : vp_in (nI a) 400 := vp_in_nI (by omega) (by decide)
  unfold wX7_hasFigure wX7_hasFigure_26
  rw [nI_clamp (show a < 2 ^ 31 by omega), b2]
  unfold cF at h
  refine ⟨v, fun c => ⟨Or.inl rfl, ?_⟩, fun c => ⟨v, fun c2 => ⟨Or.inl rfl, ?_⟩, fun c2 => ⟨Or.inr rfl, ?_⟩⟩⟩
  · rw [if_neg (by rw [decide_eq_true_iff]; exact fun z => (s4.mpr z).1 c)] at h
    exact h
  · rw [if_neg (by rw [decide_eq_true_iff]; exact fun z => (s4.mpr z).2 c2)] at h
    exact h
  · rw [if_pos (by rw [decide_eq_true_iff]; exact s4.mp ⟨c, c2⟩)] at h
    exact h
set_option maxHeartbeats 1000000 in
theorem u_name {b : Nat → Nat} {n : Nat} {k : gT → Prop} : ∀ (m q : Nat) (τ : gT), n - q = m → q ≤ n → gCb b n τ → τ.1 7 0 3 = nI q → (∀ τ', gF7 τ τ' → τ'.1 7 0 2 = τ.1 7 0 2 → τ'.1 7 0 4 = τ.1 7 0 4 → τ'.1 7 0 3 = nI (sk (cL b) n q) → k τ') → ∃ t, wX7_takeName_5 k t τ
  | 0, q, τ, hm, hq, hC, h3, h => by
    refine ⟨1, ?_⟩
    unfold wX7_takeName_5
    have hz : q = n := by omega
    rw [hC.1, h3, hz]
    refine ⟨fun _ => h τ gF7.rf rfl rfl ?_, fun z => absurd (nI_le (Nat.le_refl _) (by have := hC.2.1; omega)) z⟩
    rw [sk_end (by omega)]
    exact h3
  | m + 1, q, τ, hm, hq, hC, h3, h => by
    have hn := hC.2.1
    by_cases c : cL b q = true
    · obtain ⟨t, key⟩ := u_name (k := k) m (q + 1) (gsu τ 7 0 3 (nI (q + 1))) (by omega) (by omega) (hC.fr (gF7.rf.su (by decide))) gsu_e (fun τ' f1 f2 f3 f4 => h τ' ((gF7.rf.su (by decide)).tr f1) (f2.trans (gsu_s (by decide))) (f3.trans (gsu_s (by decide))) (by rw [sk_go (by omega) c]; exact f4))
      refine ⟨t + 1, ?_⟩
      unfold wX7_takeName_5
      rw [hC.1, h3]
      refine ⟨fun z => absurd z (nI_ge (by omega) (by omega)), fun _ => u_hasL hC (by omega) ?_⟩
      rw [if_pos c, h3, nI_1]
      exact ⟨fun z => absurd z (by decide), fun _ => key⟩
    · refine ⟨1, ?_⟩
      unfold wX7_takeName_5
      rw [hC.1, h3]
      refine ⟨fun z => absurd z (nI_ge (by omega) (by omega)), fun _ => u_hasL hC (by omega) ?_⟩
      rw [if_neg c]
      refine ⟨fun _ => h τ gF7.rf rfl rfl ?_, fun z => absurd rfl z⟩
      rw [sk_no (by omega) c]
      exact h3
set_option maxHeartbeats 1000000 in
theorem u_num {b : Nat → Nat} {n s : Nat} {k : gT → Prop} : ∀ (m q : Nat) (τ : gT), n - q = m → s ≤ q → q ≤ n → (∀ i, s ≤ i → i < q → cF b i = true) → gCb b n τ → τ.1 7 0 3 = nI q → τ.1 7 0 2 = nI s → (q - s ≤ 5 → τ.1 7 0 5 = nI (dgv b s (q - s)) ∧ dgv b s (q - s) < 10 ^ (q - s)) → (∀ τ', gF7 τ τ' → τ'.1 7 0 2 = nI s → τ'.1 7 0 4 = (if sk (cF b) n q - s ≤ 5 then 2 else 4) → τ'.1 7 0 3 = nI (sk (cF b) n q) → (sk (cF b) n q - s ≤ 5 → τ'.1 7 0 5 = nI (dgv b s (sk (cF b) n q - s))) → k τ') → ∃ t, wX7_takeNumber_5 k t τ := by
  intro m
  have fin : ∀ (q : Nat) (τ : gT), s ≤ q → q ≤ n → sk (cF b) n q = q → gCb b n τ → τ.1 7 0 3 = nI q → τ.1 7 0 2 = nI s → (q - s ≤ 5 → τ.1 7 0 5 = nI (dgv b s (q - s)) ∧ dgv b s (q - s) < 10 ^ (q - s)) → (∀ τ', gF7 τ τ' → τ'.1 7 0 2 = nI s → τ'.1 7 0 4 = (if sk (cF b) n q - s ≤ 5 then 2 else 4) → τ'.1 7 0 3 = nI (sk (cF b) n q) → (sk (cF b) n q - s ≤ 5 → τ'.1 7 0 5 = nI (dgv b s (sk (cF b) n q - s))) → k τ') → wX7_takeNumber_77 k τ := by
    intro q τ hs hq he hC h3 h2 h5 h
    have hn := hC.2.1
    unfold wX7_takeNumber_77
    rw [he] at h
    rw [h3, h2, pk_sub hs, show (5 : Int32) = nI 5 from rfl, nI_leI (by omega) (by decide)]
    refine ⟨fun c => ?_, fun c => ?_⟩
    · refine h _ (gF7.rf.su (by decide)) (by rw [gsu_s (by decide)]; exact h2) (by rw [gsu_e, if_pos c]) (by rw [gsu_s (by decide)]; exact h3) (fun _ => by rw [gsu_s (by decide)]; exact (h5 c).1)
    · refine h _ (gF7.rf.su (by decide)) (by rw [gsu_s (by decide)]; exact h2) (by rw [gsu_e, if_neg c]) (by rw [gsu_s (by decide)]; exact h3) (fun z => absurd z c)
  induction m with
  | zero =>
    intro q τ hm hs hq hd hC h3 h2 h5 h
    refine ⟨1, ?_⟩
    unfold wX7_takeNumber_5
    have hz : q = n := by omega
    refine ⟨fun _ => fin q τ hs hq (sk_end (by omega)) hC h3 h2 h5 h, fun z => absurd ?_ z⟩
    rw [hC.1, h3, hz]
    exact nI_le (Nat.le_refl _) (by have := hC.2.1; omega)
  | succ m ih =>
    intro q τ hm hs hq hd hC h3 h2 h5 h
    have hn := hC.2.1
    by_cases c : cF b q = true
    · have hd2 : ∀ i, s ≤ i → i < q + 1 → cF b i = true := fun i i1 i2 => by
        by_cases z : i = q
        · rw [z]; exact c
        · exact hd i i1 (by omega)
      have cb := of_decide_eq_true c
      obtain ⟨b1, b2⟩ := hC.2.2 q (by omega)
      have ebq : (nI (b q)).toInt8.toInt32 = nI (b q) := (sb_c ⟨b q, b1⟩).2.2.2.2.2 (by show b q < 128; omega)
      by_cases c5 : 5 ≤ q - s
      · obtain ⟨t, key⟩ := ih (q + 1) (gsu τ 7 0 3 (nI (q + 1))) (by omega) (by omega) (by omega) hd2 (hC.fr (gF7.rf.su (by decide))) gsu_e (by rw [gsu_s (by decide)]; exact h2) (fun z => absurd z (by omega)) (fun τ' f1 f2 f3 f4 f5 => h τ' ((gF7.rf.su (by decide)).tr f1) f2 (by rw [sk_go (by omega) c]; exact f3) (by rw [sk_go (by omega) c]; exact f4) (by rw [sk_go (by omega) c]; exact f5))
        refine ⟨t + 1, ?_⟩
        unfold wX7_takeNumber_5 wX7_takeNumber_64
        rw [hC.1, h3]
        refine ⟨fun z => absurd z (nI_ge (by omega) (by omega)), fun _ => u_hasF hC (by omega) ?_⟩
        rw [if_pos c, h3, h2, pk_sub hs, nI_1]
        refine ⟨fun z => absurd z (by decide), fun _ => ⟨fun _ => key, fun z => absurd ?_ z⟩⟩
        exact nI_le (a := 5) c5 (by omega)
      · obtain ⟨v1, v2⟩ := h5 (by omega)
        have ed : dgv b s (q + 1 - s) = 10 * dgv b s (q - s) + b q - 48 := by
          rw [show q + 1 - s = (q - s) + 1 by omega]
          show 10 * dgv b s (q - s) + b (s + (q - s)) - 48 = _
          rw [show s + (q - s) = q by omega]
        have hv : dgv b s (q + 1 - s) < 10 ^ (q + 1 - s) := by
          rw [ed, show q + 1 - s = (q - s) + 1 by omega, Nat.pow_succ]
          omega
        have h100 : 10 ^ (q - s) ≤ 10 ^ 4 := Nat.pow_le_pow_right (by decide) (by omega)
        obtain ⟨t, key⟩ := ih (q + 1) (gsu (gsu τ 7 0 5 (nI (dgv b s (q + 1 - s)))) 7 0 3 (nI (q + 1))) (by omega) (by omega) (by omega) hd2 (hC.fr ((gF7.rf.su (by decide)).su (by decide))) gsu_e (by rw [gsu_s (by decide), gsu_s (by decide)]; exact h2) (fun _ => ⟨by rw [gsu_s (by decide), gsu_e], hv⟩) (fun τ' f1 f2 f3 f4 f5 => h τ' (((gF7.rf.su (by decide)).su (by decide)).tr f1) f2 (by rw [sk_go (by omega) c]; exact f3) (by rw [sk_go (by omega) c]; exact f4) (by rw [sk_go (by omega) c]; exact f5))
        refine ⟨t + 1, ?_⟩
        unfold wX7_takeNumber_5 wX7_takeNumber_64
        rw [hC.1, h3]
        refine ⟨fun z => absurd z (nI_ge (by omega) (by omega)), fun _ => u_hasF hC (by omega) ?_⟩
        rw [if_pos c, h3, h2, pk_sub hs, nI_1, nI_clamp (show q < 2 ^ 31 by omega), b2, ebq, v1]
        refine ⟨fun z => absurd z (by decide), fun _ => ⟨fun z => absurd z (nI_ge (b := 5) (by omega) (by decide)), fun _ => ⟨vp_in_nI (by omega) (by decide), ?_⟩⟩⟩
        rw [show (10 : Int32) * nI (dgv b s (q - s)) = nI (10 * dgv b s (q - s)) from pk_mul 10 _, nI_add, show (48 : Int32) = nI 48 from rfl, pk_sub (by omega), ← ed, gsu_s (by decide), h3, nI_1]
        exact key
    · refine ⟨1, ?_⟩
      unfold wX7_takeNumber_5
      rw [hC.1, h3]
      refine ⟨fun z => absurd z (nI_ge (by omega) (by omega)), fun _ => u_hasF hC (by omega) ?_⟩
      rw [if_neg c]
      exact ⟨fun _ => fin q τ hs hq (sk_no (by omega) c) hC h3 h2 h5 h, fun z => absurd rfl z⟩
set_option maxHeartbeats 1000000 in
theorem u_next60 {b : Nat → Nat} {n s : Nat} {τ : gT} {k : gT → Prop} (hC : gCb b n τ) (hs : s ≤ n) (h2 : τ.1 7 0 2 = nI s) (h : ∀ τ', gF7 τ τ' → τ'.1 7 0 2 = nI s → τ'.1 7 0 3 = nI (eS b n s) → τ'.1 7 0 4 = nI (kS b n s) → (kS b n s = 2 → τ'.1 7 0 5 = nI (dgv b s (eS b n s - s))) → k τ') : wX7_next_60 k τ := by
  have hn := hC.2.1
  have hC' : gCb b n (gsu τ 7 0 3 (nI s)) := hC.fr (gF7.rf.su (by decide))
  unfold wX7_next_60 wX7_next_143
  simp (disch := decide) only [gsu_f, gsu_s, gsu_e, gsl_f, gsl_g, gsl_s, gsl_e, gsu_g]
  rw [h2, hC.1]
  unfold kS eS at h
  refine ⟨fun c => ?_, fun c => ?_⟩
  · rw [nI_ltI (by omega) (by omega)] at c
    have ns : ¬ n ≤ s := by omega
    simp only [if_neg ns] at h
    obtain ⟨b1, b2⟩ := hC.2.2 s c
    refine u_hasL hC' c ?_
    by_cases cl : cL b s = true
    · simp only [if_pos cl] at h
      rw [if_pos cl]
      refine ⟨fun z => absurd z (by decide), fun _ => ?_⟩
      unfold wX7_takeName
      refine u_name (b := b) (n := n) (n - s) s _ rfl hs (hC'.fr (gF7.rf.su (by decide))) (by rw [gsu_s (by decide), gsu_e]) (fun τ' f1 f2 f3 f4 => h τ' (((gF7.rf.su (by decide)).su (by decide)).tr f1) (f2.trans (by rw [gsu_s (by decide), gsu_s (by decide)]; exact h2)) f4 (f3.trans gsu_e) (fun z => absurd z (by decide)))
    · simp only [if_neg cl] at h
      rw [if_neg cl]
      refine ⟨fun _ => ?_, fun z => absurd rfl z⟩
      simp (disch := decide) only [gsu_f, gsu_s, gsu_e, gsl_f, gsl_g, gsl_s, gsl_e, gsu_g]
      rw [h2]
      refine u_hasF hC' c ?_
      by_cases cf : cF b s = true
      · simp only [if_pos cf] at h
        rw [if_pos cf]
        refine ⟨fun z => absurd z (by decide), fun _ => ?_⟩
        unfold wX7_takeNumber
        refine u_num (b := b) (n := n) (s := s) (n - s) s _ rfl (Nat.le_refl _) hs (fun i i1 i2 => absurd i2 (by omega)) (hC'.fr (gF7.rf.su (by decide))) (by rw [gsu_s (by decide), gsu_e]) (by rw [gsu_s (by decide), gsu_s (by decide)]; exact h2) (fun _ => by rw [Nat.sub_self]; exact ⟨gsu_e, Nat.one_pos⟩) (fun τ' f1 f2 f3 f4 f5 => h τ' (((gF7.rf.su (by decide)).su (by decide)).tr f1) f2 f4 (f3.trans ?_) (fun z => f5 ?_))
        · by_cases c6 : sk (cF b) n s - s ≤ 5
          · rw [if_pos c6, if_pos c6]; rfl
          · rw [if_neg c6, if_neg c6]; rfl
        · by_cases c6 : sk (cF b) n s - s ≤ 5
          · exact c6
          · rw [if_neg c6] at z; omega
      · simp only [if_neg cf] at h
        rw [if_neg cf]
        simp (disch := decide) only [gsu_f, gsu_s, gsu_e, gsl_f, gsl_g, gsl_s, gsl_e, gsu_g]
        rw [h2, nI_clamp (show s < 2 ^ 31 by omega), nI_1, b2, (sb_c ⟨b s, b1⟩).2.2.1]
        refine ⟨fun _ => ⟨vp_in_nI (by omega) (by decide), fun c9 => ?_, fun c9 => ?_⟩, fun z => absurd trivial z⟩
        · have c9 : ¬ b s = 59 := c9
          simp only [if_neg c9] at h
          exact h _ (((gF7.rf.su (by decide)).su (by decide)).su (by decide)) (by rw [gsu_s (by decide), gsu_s (by decide), gsu_s (by decide)]; exact h2) gsu_e (by rw [gsu_s (by decide), gsu_e]; rfl) (fun z => absurd z (by decide))
        · have c9 : b s = 59 := c9
          simp only [if_pos c9] at h
          exact h _ (((gF7.rf.su (by decide)).su (by decide)).su (by decide)) (by rw [gsu_s (by decide), gsu_s (by decide), gsu_s (by decide)]; exact h2) gsu_e (by rw [gsu_s (by decide), gsu_e]; rfl) (fun z => absurd z (by decide))
  · rw [nI_ltI (by omega) (by omega)] at c
    have ns : n ≤ s := by omega
    simp only [if_pos ns] at h
    exact h _ ((gF7.rf.su (by decide)).su (by decide)) (by rw [gsu_s (by decide), gsu_s (by decide)]; exact h2) (by rw [gsu_s (by decide), gsu_e]) gsu_e (fun z => absurd z (by decide))
set_option maxHeartbeats 1000000 in
theorem u_next {b : Nat → Nat} {n p : Nat} {τ : gT} {k : gT → Prop} (hC : gCb b n τ) (hp : p ≤ n) (h3 : τ.1 7 0 3 = nI p) (h : ∀ τ', gF7 τ τ' → τ'.1 7 0 2 = nI (tS b n p) → τ'.1 7 0 3 = nI (eS b n (tS b n p)) → τ'.1 7 0 4 = nI (kS b n (tS b n p)) → (kS b n (tS b n p) = 2 → τ'.1 7 0 5 = nI (dgv b (tS b n p) (eS b n (tS b n p) - tS b n p))) → k τ') : wX7_next τ k := by
  unfold wX7_next tS at *
  have key : ∀ (m q : Nat) (ρ : gT), n - q = m → q ≤ n → gF7 τ ρ → ρ.1 7 0 2 = nI q → sk (cW b) n q = sk (cW b) n p → ∃ t, wX7_next_8 k t ρ := by
    intro m
    induction m with
    | zero =>
      intro q ρ hm hq hF h2 he
      refine ⟨1, ?_⟩
      unfold wX7_next_8
      have hz : q = n := by omega
      refine ⟨fun _ => ?_, fun z => absurd ?_ z⟩
      · rw [sk_end (by omega)] at he
        rw [← he] at h
        exact u_next60 (hC.fr hF) hq h2 (fun τ' f1 => h τ' (hF.tr f1))
      · rw [(hC.fr hF).1, h2, hz]
        exact nI_le (Nat.le_refl _) (by have := hC.2.1; omega)
    | succ m ih =>
      intro q ρ hm hq hF h2 he
      have hn := hC.2.1
      have hC' := hC.fr hF
      obtain ⟨b1, b2⟩ := hC'.2.2 q (by omega)
      obtain ⟨s1, s2, -⟩ := sb_c ⟨b q, b1⟩
      have s1 : (nI (b q)).toInt8.toInt32 = 32 ↔ b q = 32 := s1
      have s2 : (nI (b q)).toInt8.toInt32 = 10 ↔ b q = 10 := s2
      have v : vp_in (nI q) 400 := vp_in_nI (by omega) (by decide)
      by_cases c : cW b q = true
      · obtain ⟨t, kk⟩ := ih (q + 1) (gsu ρ 7 0 2 (nI (q + 1))) (by omega) (by omega) (hF.su (by decide)) gsu_e (by rw [← he, sk_go (by omega) c])
        refine ⟨t + 1, ?_⟩
        unfold wX7_next_8 wX7_next_47
        rw [hC'.1, h2, nI_clamp (show q < 2 ^ 31 by omega), b2, s1, s2, nI_1]
        have cc := of_decide_eq_true c
        exact ⟨fun z => absurd z (nI_ge (by omega) (by omega)), fun _ => ⟨v, fun _ => kk, fun c1 => ⟨v, fun c2 => absurd cc (fun z => z.elim c1 c2), fun _ => kk⟩⟩⟩
      · refine ⟨1, ?_⟩
        unfold wX7_next_8
        have cc : ¬ (b q = 32 ∨ b q = 10) := fun z => c (decide_eq_true z)
        have k60 : wX7_next_60 k ρ := by
          rw [sk_no (by omega) c] at he
          rw [← he] at h
          exact u_next60 hC' hq h2 (fun τ' f1 => h τ' (hF.tr f1))
        rw [hC'.1, h2, nI_clamp (show q < 2 ^ 31 by omega), b2, s1, s2]
        exact ⟨fun z => absurd z (nI_ge (by omega) (by omega)), fun _ => ⟨v, fun z => absurd (Or.inl z) cc, fun _ => ⟨v, fun _ => k60, fun z => absurd (Or.inr z) cc⟩⟩⟩
  exact key (n - p) p _ rfl hp (gF7.rf.su (by decide)) (by rw [gsu_e]; exact h3) rfl
