/-! PURE: a text as a list of acts; the class's reading -/
def vl (b : Nat → Nat) (n p : Nat) : Nat := dgv b (tS b n p) (eS b n (tS b n p) - tS b n p)
def mo (v : Nat) : List Nat := [[7, 3, 3, 1000, 3], [7, 3, 3, 1000, 3], [7, 3, 3], [7, 3, 3, 3], [7, 7], [7], [7]].getD v []
def paS (b : Nat → Nat) (n : Nat) : List Nat → Nat → Sum (Nat × Nat) (List Nat × Nat)
  | [], p => if kS b n (tS b n p) = 3 then .inr ([], eS b n (tS b n p)) else .inl (1, tS b n p)
  | M :: ms, p => if kS b n (tS b n p) = 2 then (if vl b n p ≤ M then (match paS b n ms (eS b n (tS b n p)) with
    | .inl f => .inl f
    | .inr r => .inr (vl b n p :: r.1, r.2)) else .inl (2, tS b n p)) else .inl (1, tS b n p)
def pAc (b : Nat → Nat) (n p : Nat) : Sum (Nat × Nat) (Nat × List Nat × Nat) := if vb b n (tS b n p) = 7 then .inl (1, tS b n p) else (match paS b n (mo (vb b n (tS b n p))) (eS b n (tS b n p)) with
  | .inl f => .inl f
  | .inr r => .inr (vb b n (tS b n p), r.1, r.2))
def pAll (b : Nat → Nat) (n : Nat) : Nat → Nat → Sum (Nat × Nat) (List (Nat × List Nat))
  | 0, _ => .inr []
  | m + 1, p => if kS b n (tS b n p) = 0 then .inr [] else (match pAc b n p with
    | .inl f => .inl f
    | .inr r => (match pAll b n m r.2.2 with
      | .inl f => .inl f
      | .inr l => .inr ((r.1, r.2.1) :: l)))
theorem tS_bd {b : Nat → Nat} {n p : Nat} (hp : p ≤ n) : p ≤ tS b n p ∧ tS b n p ≤ n := by
  have := sk_all (P := cW b) (n := n) _ p rfl hp
  exact ⟨this.1, this.2.1⟩
theorem kS_pos {b : Nat → Nat} {n s : Nat} (h : kS b n s ≠ 0) : s < n := by
  unfold kS at h
  by_cases c : n ≤ s
  · rw [if_pos c] at h; exact absurd rfl h
  · omega
theorem kS_le {b : Nat → Nat} {n s : Nat} : kS b n s ≤ 4 := by unfold kS; split; omega; split; omega; split; split <;> omega; split <;> omega
set_option maxHeartbeats 1000000 in
theorem kS_num {b : Nat → Nat} {n s : Nat} (h : kS b n s = 2) : s < n ∧ eS b n s = sk (cF b) n s ∧ eS b n s - s ≤ 5 := by
  unfold kS at h
  by_cases c1 : n ≤ s
  · rw [if_pos c1] at h; omega
  · rw [if_neg c1] at h
    by_cases c2 : cL b s = true
    · rw [if_pos c2] at h; omega
    · rw [if_neg c2] at h
      by_cases c3 : cF b s = true
      · rw [if_pos c3] at h
        have e : eS b n s = sk (cF b) n s := by
          unfold eS
          rw [if_neg c1, if_neg c2, if_pos c3]
        refine ⟨by omega, e, ?_⟩
        by_cases c4 : sk (cF b) n s - s ≤ 5
        · rw [e]; exact c4
        · rw [if_neg c4] at h; omega
      · rw [if_neg c3] at h
        split at h <;> omega
theorem dgv_lt {b : Nat → Nat} {s : Nat} : ∀ {m : Nat}, (∀ x, x < m → 48 ≤ b (s + x) ∧ b (s + x) ≤ 57) → dgv b s m < 10 ^ m
  | 0, _ => Nat.one_pos
  | m + 1, h => by
    have := dgv_lt (m := m) (fun x hx => h x (by omega))
    have := h m (by omega)
    show 10 * dgv b s m + b (s + m) - 48 < 10 ^ (m + 1)
    rw [Nat.pow_succ]
    omega
theorem vl_lt {b : Nat → Nat} {n p : Nat} (h : kS b n (tS b n p) = 2) : vl b n p < 100000 := by
  obtain ⟨h1, h2, h3⟩ := kS_num h
  unfold vl
  have h4 := sk_all (P := cF b) (n := n) _ (tS b n p) rfl (by omega)
  refine Nat.lt_of_lt_of_le (dgv_lt (fun x hx => ?_)) (Nat.pow_le_pow_right (n := 10) (by decide) h3)
  exact of_decide_eq_true (h4.2.2.1 (tS b n p + x) (by omega) (by rw [← h2]; omega))
theorem paS_nil {b : Nat → Nat} {n p : Nat} : paS b n [] p = if kS b n (tS b n p) = 3 then .inr ([], eS b n (tS b n p)) else .inl (1, tS b n p) := rfl
theorem paS_cons {b : Nat → Nat} {n p M : Nat} {ms : List Nat} : paS b n (M :: ms) p = if kS b n (tS b n p) = 2 then (if vl b n p ≤ M then (match paS b n ms (eS b n (tS b n p)) with
    | .inl f => .inl f
    | .inr r => .inr (vl b n p :: r.1, r.2)) else .inl (2, tS b n p)) else .inl (1, tS b n p) := rfl
set_option maxHeartbeats 1000000 in
theorem paS_ok {b : Nat → Nat} {n : Nat} : ∀ (ms : List Nat) (p : Nat) (vs : List Nat) (q : Nat), p ≤ n → paS b n ms p = .inr (vs, q) → q ≤ n ∧ p + ms.length + 1 ≤ q ∧ vs.length = ms.length ∧ ∀ i, i < ms.length → vs.getD i 0 ≤ ms.getD i 0
  | [], p, vs, q, hp, h => by
    have t := tS_bd (b := b) hp
    rw [paS_nil] at h
    by_cases c : kS b n (tS b n p) = 3
    · rw [if_pos c] at h
      have e := eS_bd (b := b) t.2
      have e3 := e.2.2 (kS_pos (b := b) (by omega))
      injection h with h
      injection h with h1 h2
      subst h1 h2
      exact ⟨e.2.1, by show p + 0 + 1 ≤ _; omega, rfl, fun i hi => absurd hi (Nat.not_lt_zero i)⟩
    · rw [if_neg c] at h
      cases h
  | M :: ms, p, vs, q, hp, h => by
    have t := tS_bd (b := b) hp
    rw [paS_cons] at h
    by_cases c : kS b n (tS b n p) = 2
    · rw [if_pos c] at h
      by_cases c2 : vl b n p ≤ M
      · rw [if_pos c2] at h
        have e := eS_bd (b := b) t.2
        have e3 := e.2.2 (kS_pos (b := b) (by omega))
        cases hr : paS b n ms (eS b n (tS b n p)) with
        | inl f => rw [hr] at h; cases h
        | inr r =>
          rw [hr] at h
          injection h with h
          injection h with h1 h2
          subst h1 h2
          obtain ⟨i1, i2, i3, i4⟩ := paS_ok ms _ r.1 r.2 e.2.1 hr
          refine ⟨i1, by rw [List.length_cons]; omega, by rw [List.length_cons, List.length_cons, i3], fun i hi => ?_⟩
          cases i with
          | zero => exact c2
          | succ i =>
            rw [List.getD_cons_succ, List.getD_cons_succ]
            exact i4 i (by rw [List.length_cons] at hi; omega)
      · rw [if_neg c2] at h; cases h
    · rw [if_neg c] at h; cases h
set_option maxHeartbeats 1000000 in
theorem pAc_ok {b : Nat → Nat} {n p v q : Nat} {vs : List Nat} (hp : p ≤ n) (h : pAc b n p = .inr (v, vs, q)) : v = vb b n (tS b n p) ∧ v < 7 ∧ q ≤ n ∧ p + 5 ≤ q ∧ paS b n (mo v) (eS b n (tS b n p)) = .inr (vs, q) := by
  have t := tS_bd (b := b) hp
  unfold pAc at h
  by_cases c : vb b n (tS b n p) = 7
  · rw [if_pos c] at h; cases h
  · rw [if_neg c] at h
    have hv := vb_le (b := b) (n := n) (s := tS b n p)
    have e := eS_bd (b := b) t.2
    cases hr : paS b n (mo (vb b n (tS b n p))) (eS b n (tS b n p)) with
    | inl f => rw [hr] at h; cases h
    | inr r =>
      rw [hr] at h
      injection h with h
      injection h with h1 h2
      injection h2 with h2 h3
      subst h1 h2 h3
      obtain ⟨i1, i2, i3, i4⟩ := paS_ok _ _ r.1 r.2 e.2.1 hr
      have hP := (wY_iff (b := b) (n := n) (s := tS b n p) (i := vb b n (tS b n p)) (by omega)).mp ((vb_iff (by omega)).mpr rfl)
      unfold vP at hP
      rw [Bool.and_eq_true, spB_iff] at hP
      have w3 := (wl_ok ⟨vb b n (tS b n p), by omega⟩).2.2.1
      dsimp only at w3
      have w1 := hP.2.1
      have m1 : ∀ i : Fin 7, 1 ≤ (mo i).length := by decide
      have m2 := m1 ⟨vb b n (tS b n p), by omega⟩
      dsimp only at m2
      exact ⟨rfl, by omega, i1, by omega, hr⟩
def gFC (σ τ : gT) : Prop := (∀ x, x ≠ 5 → x ≠ 7 → x ≠ 19 → x ≠ 20 → τ.1 x = σ.1 x) ∧ τ.1 7 0 1 = σ.1 7 0 1
theorem gFC.tr {σ τ ρ : gT} (h : gFC σ τ) (g : gFC τ ρ) : gFC σ ρ := ⟨fun a a1 a2 a3 a4 => (g.1 a a1 a2 a3 a4).trans (h.1 a a1 a2 a3 a4), g.2.trans h.2⟩
theorem gFC.of {σ τ : gT} (h : gF7 σ τ) : gFC σ τ := ⟨fun a _ a2 _ _ => h.1 a a2, h.2⟩
theorem gFC.rf {σ : gT} : gFC σ σ := ⟨fun _ _ _ _ _ => rfl, rfl⟩
theorem gFC.su {σ τ : gT} {f i j : Nat} {x : Int32} (h : gFC σ τ) (hf : f = 5 ∨ f = 19 ∨ f = 20) : gFC σ (gsu τ f i j x) := ⟨fun a a1 a2 a3 a4 => by rw [gsu_fam (by omega)]; exact h.1 a a1 a2 a3 a4, by rw [gsu_f (by omega)]; exact h.2⟩
theorem gCb.fc {b : Nat → Nat} {n : Nat} {σ τ : gT} (h : gCb b n σ) (g : gFC σ τ) : gCb b n τ := ⟨g.2.trans h.1, h.2.1, fun q hq => ⟨(h.2.2 q hq).1, by rw [g.1 22 (by decide) (by decide) (by decide) (by decide)]; exact (h.2.2 q hq).2⟩⟩
theorem u_faulty {x : Nat} {s : Nat} {τ : gT} {k : Int32 → gT → Prop} (h2 : τ.1 7 0 2 = nI s) (h : ∀ τ', gFC τ τ' → τ'.1 5 0 3 = nI x → τ'.1 5 0 4 = nI s → k 0 τ') : wX5_faulty (nI x) τ k := by
  unfold wX5_faulty
  refine ⟨Or.inl rfl, h _ ((gFC.rf.su (Or.inl rfl)).su (Or.inl rfl)) ?_ ?_⟩
  · rw [gsu_s (by decide), gsu_e]
  · rw [gsu_e, gsu_f (by decide)]
    exact h2
theorem mo_40 : ∀ j : Fin 5, ([7, 3, 3, 1000, 3] : List Nat).drop j = ([7, 3, 3, 1000, 3] : List Nat).getD j 0 :: ([7, 3, 3, 1000, 3] : List Nat).drop (j + 1) ∧ (gSV 40).getD j 0 = nI (([7, 3, 3, 1000, 3] : List Nat).getD j 0) ∧ ([7, 3, 3, 1000, 3] : List Nat).getD j 0 ≤ 1000 := by decide +kernel
set_option maxHeartbeats 1000000 in
theorem u_nums_f40 {b : Nat → Nat} {n a : Nat} {k : Int32 → gT → Prop} (ha : a < 80) : ∀ p τ, gCb b n τ → p ≤ n → τ.1 7 0 3 = nI p → τ.1 5 0 2 = nI a → (∀ f s τ', paS b n [7, 3, 3, 1000, 3] p = .inl (f, s) → gFC τ τ' → τ'.1 5 0 3 = nI f → τ'.1 5 0 4 = nI s → k 0 τ') → (∀ vs q τ', paS b n [7, 3, 3, 1000, 3] p = .inr (vs, q) → gFC τ τ' → τ'.1 5 0 2 = nI a → τ'.1 7 0 3 = nI q → τ'.1 19 = τ.1 19 → (∀ c, c < a * 5 → τ'.1 20 0 c = τ.1 20 0 c) → (∀ i, i < vs.length → τ'.1 20 0 (a * 5 + i) = nI (vs.getD i 0)) → k 1 τ') → ∃ t, wX5_readAct_f40_36 k t 0 τ := by
  have key := gloop (N := 5) (fun t j => ∀ p τ, gCb b n τ → p ≤ n → τ.1 7 0 3 = nI p → τ.1 5 0 2 = nI a → (∀ f s τ', paS b n (([7, 3, 3, 1000, 3] : List Nat).drop j) p = .inl (f, s) → gFC τ τ' → τ'.1 5 0 3 = nI f → τ'.1 5 0 4 = nI s → k 0 τ') → (∀ vs q τ', paS b n (([7, 3, 3, 1000, 3] : List Nat).drop j) p = .inr (vs, q) → gFC τ τ' → τ'.1 5 0 2 = nI a → τ'.1 7 0 3 = nI q → τ'.1 19 = τ.1 19 → (∀ c, c < a * 5 + j → τ'.1 20 0 c = τ.1 20 0 c) → (∀ i, i < vs.length → τ'.1 20 0 (a * 5 + j + i) = nI (vs.getD i 0)) → k 1 τ') → wX5_readAct_f40_36 k t (nI j) τ) (by
    intro p τ hC hp h3 ha2 hf ho
    have e0 : ([7, 3, 3, 1000, 3] : List Nat).drop 5 = [] := rfl
    simp only [e0, paS_nil] at hf ho
    unfold wX5_readAct_f40_36 wX5_readAct_f40_125
    refine ⟨fun _ => u_next hC hp h3 (fun τ1 f1 f2 f3 f4 _ => ?_), fun z => absurd (by decide) z⟩
    have kl := kS_le (b := b) (n := n) (s := tS b n p)
    rw [f4, show (3 : Int32) = nI 3 from rfl, nI_eq (by omega) (by decide)]
    refine ⟨fun c => ⟨Or.inr rfl, ?_⟩, fun c => u_faulty (x := 1) f2 (fun τ' g1 g2 g3 => ⟨fun _ => ⟨Or.inl rfl, ?_⟩, fun z => absurd rfl z⟩)⟩
    · simp only [if_pos c] at ho
      exact ho [] _ τ1 rfl (gFC.of f1) (by rw [f1.1 5 (by decide)]; exact ha2) f3 (f1.1 19 (by decide)) (fun c _ => by rw [f1.1 20 (by decide)]) (fun i hi => absurd hi (Nat.not_lt_zero i))
    · simp only [if_neg c] at hf
      exact hf 1 _ τ' rfl ((gFC.of f1).tr g1) g2 g3) (by
    intro t j hj ih p τ hC hp h3 ha2 hf ho
    obtain ⟨d1, d2, d3⟩ := mo_40 ⟨j, hj⟩
    dsimp only at d1 d2 d3
    simp only [d1, paS_cons] at hf ho
    unfold wX5_readAct_f40_36
    refine ⟨fun z => absurd z (nI_ge (b := 5) hj (by decide)), fun _ => u_next hC hp h3 (fun τ1 f1 f2 f3 f4 f5 => ?_)⟩
    have kl := kS_le (b := b) (n := n) (s := tS b n p)
    have a5 : τ1.1 5 0 2 = nI a := by rw [f1.1 5 (by decide)]; exact ha2
    have tb := tS_bd (b := b) hp
    have eb := eS_bd (b := b) tb.2
    rw [f4, show (2 : Int32) = nI 2 from rfl, nI_eq (by omega) (by decide), a5, show nI a * (5 : Int32) = nI (a * 5) from pk_mul a 5, nI_add, nI_1, nI_clamp (show a * 5 + j < 2 ^ 31 by omega), nI_clamp (show j < 2 ^ 31 by omega), d2]
    refine ⟨fun c => ⟨vp_in_nI hj (by decide), ?_⟩, fun c => u_faulty (x := 1) f2 (fun τ' g1 g2 g3 => ⟨Or.inl rfl, ?_⟩)⟩
    · have hvl := vl_lt c
      have f5c : τ1.1 7 0 5 = nI (vl b n p) := f5 c
      rw [f5c]
      rw [nI_leI (show vl b n p < 2 ^ 31 by omega) (by omega)]
      refine ⟨fun c2 => ⟨vp_in_nI (by omega) (by decide), ?_⟩, fun c2 => u_faulty (x := 2) f2 (fun τ' g1 g2 g3 => ⟨Or.inl rfl, ?_⟩)⟩
      · have c2 : vl b n p ≤ ([7, 3, 3, 1000, 3] : List Nat).getD j 0 := c2
        simp only [if_pos c, if_pos c2] at hf ho
        refine ih _ _ (hC.fc ((gFC.of f1).su (by decide))) eb.2.1 (by rw [gsu_f (by decide)]; exact f3) (by rw [gsu_f (by decide)]; exact a5) (fun f s τ' g1 g2 g3 g4 => ?_) (fun vs q τ' g1 g2 g3 g4 g5 g6 g7 => ?_)
        · rw [g1] at hf
          exact hf f s τ' rfl (((gFC.of f1).su (by decide)).tr g2) g3 g4
        · rw [g1] at ho
          refine ho (vl b n p :: vs) q τ' rfl (((gFC.of f1).su (by decide)).tr g2) g3 g4 ?_ (fun x hx => ?_) (fun i hi => ?_)
          · rw [g5, gsu_fam (by decide)]
            exact f1.1 19 (by decide)
          · rw [g6 x (by omega), gsu_s (by omega), f1.1 20 (by decide)]
          · cases i with
            | zero =>
              rw [Nat.add_zero, g6 (a * 5 + j) (by omega), gsu_e]
              rfl
            | succ i =>
              rw [List.getD_cons_succ, show a * 5 + j + (i + 1) = a * 5 + (j + 1) + i by omega]
              exact g7 i (by rw [List.length_cons] at hi; omega)
      · have c2 : ¬ vl b n p ≤ ([7, 3, 3, 1000, 3] : List Nat).getD j 0 := c2
        simp only [if_pos c, if_neg c2] at hf
        exact hf 2 _ τ' rfl ((gFC.of f1).tr g1) g2 g3
    · simp only [if_neg c] at hf
      exact hf 1 _ τ' rfl ((gFC.of f1).tr g1) g2 g3)
  obtain ⟨t, key⟩ := key
  intro p τ hC hp h3 ha2 hf ho
  exact ⟨t, key p τ hC hp h3 ha2 hf (fun vs q τ' g1 g2 g3 g4 g5 g6 g7 => ho vs q τ' g1 g2 g3 g4 g5 g6 g7)⟩
theorem mo_41 : ∀ j : Fin 3, ([7, 3, 3] : List Nat).drop j = ([7, 3, 3] : List Nat).getD j 0 :: ([7, 3, 3] : List Nat).drop (j + 1) ∧ (gSV 41).getD j 0 = nI (([7, 3, 3] : List Nat).getD j 0) ∧ ([7, 3, 3] : List Nat).getD j 0 ≤ 1000 := by decide +kernel
set_option maxHeartbeats 1000000 in
theorem u_nums_f41 {b : Nat → Nat} {n a : Nat} {k : Int32 → gT → Prop} (ha : a < 80) : ∀ p τ, gCb b n τ → p ≤ n → τ.1 7 0 3 = nI p → τ.1 5 0 2 = nI a → (∀ f s τ', paS b n [7, 3, 3] p = .inl (f, s) → gFC τ τ' → τ'.1 5 0 3 = nI f → τ'.1 5 0 4 = nI s → k 0 τ') → (∀ vs q τ', paS b n [7, 3, 3] p = .inr (vs, q) → gFC τ τ' → τ'.1 5 0 2 = nI a → τ'.1 7 0 3 = nI q → τ'.1 19 = τ.1 19 → (∀ c, c < a * 5 → τ'.1 20 0 c = τ.1 20 0 c) → (∀ i, i < vs.length → τ'.1 20 0 (a * 5 + i) = nI (vs.getD i 0)) → k 1 τ') → ∃ t, wX5_readAct_f41_36 k t 0 τ := by
  have key := gloop (N := 3) (fun t j => ∀ p τ, gCb b n τ → p ≤ n → τ.1 7 0 3 = nI p → τ.1 5 0 2 = nI a → (∀ f s τ', paS b n (([7, 3, 3] : List Nat).drop j) p = .inl (f, s) → gFC τ τ' → τ'.1 5 0 3 = nI f → τ'.1 5 0 4 = nI s → k 0 τ') → (∀ vs q τ', paS b n (([7, 3, 3] : List Nat).drop j) p = .inr (vs, q) → gFC τ τ' → τ'.1 5 0 2 = nI a → τ'.1 7 0 3 = nI q → τ'.1 19 = τ.1 19 → (∀ c, c < a * 5 + j → τ'.1 20 0 c = τ.1 20 0 c) → (∀ i, i < vs.length → τ'.1 20 0 (a * 5 + j + i) = nI (vs.getD i 0)) → k 1 τ') → wX5_readAct_f41_36 k t (nI j) τ) (by
    intro p τ hC hp h3 ha2 hf ho
    have e0 : ([7, 3, 3] : List Nat).drop 3 = [] := rfl
    simp only [e0, paS_nil] at hf ho
    unfold wX5_readAct_f41_36 wX5_readAct_f41_125
    refine ⟨fun _ => u_next hC hp h3 (fun τ1 f1 f2 f3 f4 _ => ?_), fun z => absurd (by decide) z⟩
    have kl := kS_le (b := b) (n := n) (s := tS b n p)
    rw [f4, show (3 : Int32) = nI 3 from rfl, nI_eq (by omega) (by decide)]
    refine ⟨fun c => ⟨Or.inr rfl, ?_⟩, fun c => u_faulty (x := 1) f2 (fun τ' g1 g2 g3 => ⟨fun _ => ⟨Or.inl rfl, ?_⟩, fun z => absurd rfl z⟩)⟩
    · simp only [if_pos c] at ho
      exact ho [] _ τ1 rfl (gFC.of f1) (by rw [f1.1 5 (by decide)]; exact ha2) f3 (f1.1 19 (by decide)) (fun c _ => by rw [f1.1 20 (by decide)]) (fun i hi => absurd hi (Nat.not_lt_zero i))
    · simp only [if_neg c] at hf
      exact hf 1 _ τ' rfl ((gFC.of f1).tr g1) g2 g3) (by
    intro t j hj ih p τ hC hp h3 ha2 hf ho
    obtain ⟨d1, d2, d3⟩ := mo_41 ⟨j, hj⟩
    dsimp only at d1 d2 d3
    simp only [d1, paS_cons] at hf ho
    unfold wX5_readAct_f41_36
    refine ⟨fun z => absurd z (nI_ge (b := 3) hj (by decide)), fun _ => u_next hC hp h3 (fun τ1 f1 f2 f3 f4 f5 => ?_)⟩
    have kl := kS_le (b := b) (n := n) (s := tS b n p)
    have a5 : τ1.1 5 0 2 = nI a := by rw [f1.1 5 (by decide)]; exact ha2
    have tb := tS_bd (b := b) hp
    have eb := eS_bd (b := b) tb.2
    rw [f4, show (2 : Int32) = nI 2 from rfl, nI_eq (by omega) (by decide), a5, show nI a * (5 : Int32) = nI (a * 5) from pk_mul a 5, nI_add, nI_1, nI_clamp (show a * 5 + j < 2 ^ 31 by omega), nI_clamp (show j < 2 ^ 31 by omega), d2]
    refine ⟨fun c => ⟨vp_in_nI hj (by decide), ?_⟩, fun c => u_faulty (x := 1) f2 (fun τ' g1 g2 g3 => ⟨Or.inl rfl, ?_⟩)⟩
    · have hvl := vl_lt c
      have f5c : τ1.1 7 0 5 = nI (vl b n p) := f5 c
      rw [f5c]
      rw [nI_leI (show vl b n p < 2 ^ 31 by omega) (by omega)]
      refine ⟨fun c2 => ⟨vp_in_nI (by omega) (by decide), ?_⟩, fun c2 => u_faulty (x := 2) f2 (fun τ' g1 g2 g3 => ⟨Or.inl rfl, ?_⟩)⟩
      · have c2 : vl b n p ≤ ([7, 3, 3] : List Nat).getD j 0 := c2
        simp only [if_pos c, if_pos c2] at hf ho
        refine ih _ _ (hC.fc ((gFC.of f1).su (by decide))) eb.2.1 (by rw [gsu_f (by decide)]; exact f3) (by rw [gsu_f (by decide)]; exact a5) (fun f s τ' g1 g2 g3 g4 => ?_) (fun vs q τ' g1 g2 g3 g4 g5 g6 g7 => ?_)
        · rw [g1] at hf
          exact hf f s τ' rfl (((gFC.of f1).su (by decide)).tr g2) g3 g4
        · rw [g1] at ho
          refine ho (vl b n p :: vs) q τ' rfl (((gFC.of f1).su (by decide)).tr g2) g3 g4 ?_ (fun x hx => ?_) (fun i hi => ?_)
          · rw [g5, gsu_fam (by decide)]
            exact f1.1 19 (by decide)
          · rw [g6 x (by omega), gsu_s (by omega), f1.1 20 (by decide)]
          · cases i with
            | zero =>
              rw [Nat.add_zero, g6 (a * 5 + j) (by omega), gsu_e]
              rfl
            | succ i =>
              rw [List.getD_cons_succ, show a * 5 + j + (i + 1) = a * 5 + (j + 1) + i by omega]
              exact g7 i (by rw [List.length_cons] at hi; omega)
      · have c2 : ¬ vl b n p ≤ ([7, 3, 3] : List Nat).getD j 0 := c2
        simp only [if_pos c, if_neg c2] at hf
        exact hf 2 _ τ' rfl ((gFC.of f1).tr g1) g2 g3
    · simp only [if_neg c] at hf
      exact hf 1 _ τ' rfl ((gFC.of f1).tr g1) g2 g3)
  obtain ⟨t, key⟩ := key
  intro p τ hC hp h3 ha2 hf ho
  exact ⟨t, key p τ hC hp h3 ha2 hf (fun vs q τ' g1 g2 g3 g4 g5 g6 g7 => ho vs q τ' g1 g2 g3 g4 g5 g6 g7)⟩
theorem mo_42 : ∀ j : Fin 4, ([7, 3, 3, 3] : List Nat).drop j = ([7, 3, 3, 3] : List Nat).getD j 0 :: ([7, 3, 3, 3] : List Nat).drop (j + 1) ∧ (gSV 42).getD j 0 = nI (([7, 3, 3, 3] : List Nat).getD j 0) ∧ ([7, 3, 3, 3] : List Nat).getD j 0 ≤ 1000 := by decide +kernel
set_option maxHeartbeats 1000000 in
theorem u_nums_f42 {b : Nat → Nat} {n a : Nat} {k : Int32 → gT → Prop} (ha : a < 80) : ∀ p τ, gCb b n τ → p ≤ n → τ.1 7 0 3 = nI p → τ.1 5 0 2 = nI a → (∀ f s τ', paS b n [7, 3, 3, 3] p = .inl (f, s) → gFC τ τ' → τ'.1 5 0 3 = nI f → τ'.1 5 0 4 = nI s → k 0 τ') → (∀ vs q τ', paS b n [7, 3, 3, 3] p = .inr (vs, q) → gFC τ τ' → τ'.1 5 0 2 = nI a → τ'.1 7 0 3 = nI q → τ'.1 19 = τ.1 19 → (∀ c, c < a * 5 → τ'.1 20 0 c = τ.1 20 0 c) → (∀ i, i < vs.length → τ'.1 20 0 (a * 5 + i) = nI (vs.getD i 0)) → k 1 τ') → ∃ t, wX5_readAct_f42_36 k t 0 τ := by
  have key := gloop (N := 4) (fun t j => ∀ p τ, gCb b n τ → p ≤ n → τ.1 7 0 3 = nI p → τ.1 5 0 2 = nI a → (∀ f s τ', paS b n (([7, 3, 3, 3] : List Nat).drop j) p = .inl (f, s) → gFC τ τ' → τ'.1 5 0 3 = nI f → τ'.1 5 0 4 = nI s → k 0 τ') → (∀ vs q τ', paS b n (([7, 3, 3, 3] : List Nat).drop j) p = .inr (vs, q) → gFC τ τ' → τ'.1 5 0 2 = nI a → τ'.1 7 0 3 = nI q → τ'.1 19 = τ.1 19 → (∀ c, c < a * 5 + j → τ'.1 20 0 c = τ.1 20 0 c) → (∀ i, i < vs.length → τ'.1 20 0 (a * 5 + j + i) = nI (vs.getD i 0)) → k 1 τ') → wX5_readAct_f42_36 k t (nI j) τ) (by
    intro p τ hC hp h3 ha2 hf ho
    have e0 : ([7, 3, 3, 3] : List Nat).drop 4 = [] := rfl
    simp only [e0, paS_nil] at hf ho
    unfold wX5_readAct_f42_36 wX5_readAct_f42_125
    refine ⟨fun _ => u_next hC hp h3 (fun τ1 f1 f2 f3 f4 _ => ?_), fun z => absurd (by decide) z⟩
    have kl := kS_le (b := b) (n := n) (s := tS b n p)
    rw [f4, show (3 : Int32) = nI 3 from rfl, nI_eq (by omega) (by decide)]
    refine ⟨fun c => ⟨Or.inr rfl, ?_⟩, fun c => u_faulty (x := 1) f2 (fun τ' g1 g2 g3 => ⟨fun _ => ⟨Or.inl rfl, ?_⟩, fun z => absurd rfl z⟩)⟩
    · simp only [if_pos c] at ho
      exact ho [] _ τ1 rfl (gFC.of f1) (by rw [f1.1 5 (by decide)]; exact ha2) f3 (f1.1 19 (by decide)) (fun c _ => by rw [f1.1 20 (by decide)]) (fun i hi => absurd hi (Nat.not_lt_zero i))
    · simp only [if_neg c] at hf
      exact hf 1 _ τ' rfl ((gFC.of f1).tr g1) g2 g3) (by
    intro t j hj ih p τ hC hp h3 ha2 hf ho
    obtain ⟨d1, d2, d3⟩ := mo_42 ⟨j, hj⟩
    dsimp only at d1 d2 d3
    simp only [d1, paS_cons] at hf ho
    unfold wX5_readAct_f42_36
    refine ⟨fun z => absurd z (nI_ge (b := 4) hj (by decide)), fun _ => u_next hC hp h3 (fun τ1 f1 f2 f3 f4 f5 => ?_)⟩
    have kl := kS_le (b := b) (n := n) (s := tS b n p)
    have a5 : τ1.1 5 0 2 = nI a := by rw [f1.1 5 (by decide)]; exact ha2
    have tb := tS_bd (b := b) hp
    have eb := eS_bd (b := b) tb.2
    rw [f4, show (2 : Int32) = nI 2 from rfl, nI_eq (by omega) (by decide), a5, show nI a * (5 : Int32) = nI (a * 5) from pk_mul a 5, nI_add, nI_1, nI_clamp (show a * 5 + j < 2 ^ 31 by omega), nI_clamp (show j < 2 ^ 31 by omega), d2]
    refine ⟨fun c => ⟨vp_in_nI hj (by decide), ?_⟩, fun c => u_faulty (x := 1) f2 (fun τ' g1 g2 g3 => ⟨Or.inl rfl, ?_⟩)⟩
    · have hvl := vl_lt c
      have f5c : τ1.1 7 0 5 = nI (vl b n p) := f5 c
      rw [f5c]
      rw [nI_leI (show vl b n p < 2 ^ 31 by omega) (by omega)]
      refine ⟨fun c2 => ⟨vp_in_nI (by omega) (by decide), ?_⟩, fun c2 => u_faulty (x := 2) f2 (fun τ' g1 g2 g3 => ⟨Or.inl rfl, ?_⟩)⟩
      · have c2 : vl b n p ≤ ([7, 3, 3, 3] : List Nat).getD j 0 := c2
        simp only [if_pos c, if_pos c2] at hf ho
        refine ih _ _ (hC.fc ((gFC.of f1).su (by decide))) eb.2.1 (by rw [gsu_f (by decide)]; exact f3) (by rw [gsu_f (by decide)]; exact a5) (fun f s τ' g1 g2 g3 g4 => ?_) (fun vs q τ' g1 g2 g3 g4 g5 g6 g7 => ?_)
        · rw [g1] at hf
          exact hf f s τ' rfl (((gFC.of f1).su (by decide)).tr g2) g3 g4
        · rw [g1] at ho
          refine ho (vl b n p :: vs) q τ' rfl (((gFC.of f1).su (by decide)).tr g2) g3 g4 ?_ (fun x hx => ?_) (fun i hi => ?_)
          · rw [g5, gsu_fam (by decide)]
            exact f1.1 19 (by decide)
          · rw [g6 x (by omega), gsu_s (by omega), f1.1 20 (by decide)]
          · cases i with
            | zero =>
              rw [Nat.add_zero, g6 (a * 5 + j) (by omega), gsu_e]
              rfl
            | succ i =>
              rw [List.getD_cons_succ, show a * 5 + j + (i + 1) = a * 5 + (j + 1) + i by omega]
              exact g7 i (by rw [List.length_cons] at hi; omega)
      · have c2 : ¬ vl b n p ≤ ([7, 3, 3, 3] : List Nat).getD j 0 := c2
        simp only [if_pos c, if_neg c2] at hf
        exact hf 2 _ τ' rfl ((gFC.of f1).tr g1) g2 g3
    · simp only [if_neg c] at hf
      exact hf 1 _ τ' rfl ((gFC.of f1).tr g1) g2 g3)
  obtain ⟨t, key⟩ := key
  intro p τ hC hp h3 ha2 hf ho
  exact ⟨t, key p τ hC hp h3 ha2 hf (fun vs q τ' g1 g2 g3 g4 g5 g6 g7 => ho vs q τ' g1 g2 g3 g4 g5 g6 g7)⟩
theorem mo_43 : ∀ j : Fin 2, ([7, 7] : List Nat).drop j = ([7, 7] : List Nat).getD j 0 :: ([7, 7] : List Nat).drop (j + 1) ∧ (gSV 43).getD j 0 = nI (([7, 7] : List Nat).getD j 0) ∧ ([7, 7] : List Nat).getD j 0 ≤ 1000 := by decide +kernel
set_option maxHeartbeats 1000000 in
theorem u_nums_f43 {b : Nat → Nat} {n a : Nat} {k : Int32 → gT → Prop} (ha : a < 80) : ∀ p τ, gCb b n τ → p ≤ n → τ.1 7 0 3 = nI p → τ.1 5 0 2 = nI a → (∀ f s τ', paS b n [7, 7] p = .inl (f, s) → gFC τ τ' → τ'.1 5 0 3 = nI f → τ'.1 5 0 4 = nI s → k 0 τ') → (∀ vs q τ', paS b n [7, 7] p = .inr (vs, q) → gFC τ τ' → τ'.1 5 0 2 = nI a → τ'.1 7 0 3 = nI q → τ'.1 19 = τ.1 19 → (∀ c, c < a * 5 → τ'.1 20 0 c = τ.1 20 0 c) → (∀ i, i < vs.length → τ'.1 20 0 (a * 5 + i) = nI (vs.getD i 0)) → k 1 τ') → ∃ t, wX5_readAct_f43_36 k t 0 τ := by
  have key := gloop (N := 2) (fun t j => ∀ p τ, gCb b n τ → p ≤ n → τ.1 7 0 3 = nI p → τ.1 5 0 2 = nI a → (∀ f s τ', paS b n (([7, 7] : List Nat).drop j) p = .inl (f, s) → gFC τ τ' → τ'.1 5 0 3 = nI f → τ'.1 5 0 4 = nI s → k 0 τ') → (∀ vs q τ', paS b n (([7, 7] : List Nat).drop j) p = .inr (vs, q) → gFC τ τ' → τ'.1 5 0 2 = nI a → τ'.1 7 0 3 = nI q → τ'.1 19 = τ.1 19 → (∀ c, c < a * 5 + j → τ'.1 20 0 c = τ.1 20 0 c) → (∀ i, i < vs.length → τ'.1 20 0 (a * 5 + j + i) = nI (vs.getD i 0)) → k 1 τ') → wX5_readAct_f43_36 k t (nI j) τ) (by
    intro p τ hC hp h3 ha2 hf ho
    have e0 : ([7, 7] : List Nat).drop 2 = [] := rfl
    simp only [e0, paS_nil] at hf ho
    unfold wX5_readAct_f43_36 wX5_readAct_f43_125
    refine ⟨fun _ => u_next hC hp h3 (fun τ1 f1 f2 f3 f4 _ => ?_), fun z => absurd (by decide) z⟩
    have kl := kS_le (b := b) (n := n) (s := tS b n p)
    rw [f4, show (3 : Int32) = nI 3 from rfl, nI_eq (by omega) (by decide)]
    refine ⟨fun c => ⟨Or.inr rfl, ?_⟩, fun c => u_faulty (x := 1) f2 (fun τ' g1 g2 g3 => ⟨fun _ => ⟨Or.inl rfl, ?_⟩, fun z => absurd rfl z⟩)⟩
    · simp only [if_pos c] at ho
      exact ho [] _ τ1 rfl (gFC.of f1) (by rw [f1.1 5 (by decide)]; exact ha2) f3 (f1.1 19 (by decide)) (fun c _ => by rw [f1.1 20 (by decide)]) (fun i hi => absurd hi (Nat.not_lt_zero i))
    · simp only [if_neg c] at hf
      exact hf 1 _ τ' rfl ((gFC.of f1).tr g1) g2 g3) (by
    intro t j hj ih p τ hC hp h3 ha2 hf ho
    obtain ⟨d1, d2, d3⟩ := mo_43 ⟨j, hj⟩
    dsimp only at d1 d2 d3
    simp only [d1, paS_cons] at hf ho
    unfold wX5_readAct_f43_36
    refine ⟨fun z => absurd z (nI_ge (b := 2) hj (by decide)), fun _ => u_next hC hp h3 (fun τ1 f1 f2 f3 f4 f5 => ?_)⟩
    have kl := kS_le (b := b) (n := n) (s := tS b n p)
    have a5 : τ1.1 5 0 2 = nI a := by rw [f1.1 5 (by decide)]; exact ha2
    have tb := tS_bd (b := b) hp
    have eb := eS_bd (b := b) tb.2
    rw [f4, show (2 : Int32) = nI 2 from rfl, nI_eq (by omega) (by decide), a5, show nI a * (5 : Int32) = nI (a * 5) from pk_mul a 5, nI_add, nI_1, nI_clamp (show a * 5 + j < 2 ^ 31 by omega), nI_clamp (show j < 2 ^ 31 by omega), d2]
    refine ⟨fun c => ⟨vp_in_nI hj (by decide), ?_⟩, fun c => u_faulty (x := 1) f2 (fun τ' g1 g2 g3 => ⟨Or.inl rfl, ?_⟩)⟩
    · have hvl := vl_lt c
      have f5c : τ1.1 7 0 5 = nI (vl b n p) := f5 c
      rw [f5c]
      rw [nI_leI (show vl b n p < 2 ^ 31 by omega) (by omega)]
      refine ⟨fun c2 => ⟨vp_in_nI (by omega) (by decide), ?_⟩, fun c2 => u_faulty (x := 2) f2 (fun τ' g1 g2 g3 => ⟨Or.inl rfl, ?_⟩)⟩
      · have c2 : vl b n p ≤ ([7, 7] : List Nat).getD j 0 := c2
        simp only [if_pos c, if_pos c2] at hf ho
        refine ih _ _ (hC.fc ((gFC.of f1).su (by decide))) eb.2.1 (by rw [gsu_f (by decide)]; exact f3) (by rw [gsu_f (by decide)]; exact a5) (fun f s τ' g1 g2 g3 g4 => ?_) (fun vs q τ' g1 g2 g3 g4 g5 g6 g7 => ?_)
        · rw [g1] at hf
          exact hf f s τ' rfl (((gFC.of f1).su (by decide)).tr g2) g3 g4
        · rw [g1] at ho
          refine ho (vl b n p :: vs) q τ' rfl (((gFC.of f1).su (by decide)).tr g2) g3 g4 ?_ (fun x hx => ?_) (fun i hi => ?_)
          · rw [g5, gsu_fam (by decide)]
            exact f1.1 19 (by decide)
          · rw [g6 x (by omega), gsu_s (by omega), f1.1 20 (by decide)]
          · cases i with
            | zero =>
              rw [Nat.add_zero, g6 (a * 5 + j) (by omega), gsu_e]
              rfl
            | succ i =>
              rw [List.getD_cons_succ, show a * 5 + j + (i + 1) = a * 5 + (j + 1) + i by omega]
              exact g7 i (by rw [List.length_cons] at hi; omega)
      · have c2 : ¬ vl b n p ≤ ([7, 7] : List Nat).getD j 0 := c2
        simp only [if_pos c, if_neg c2] at hf
        exact hf 2 _ τ' rfl ((gFC.of f1).tr g1) g2 g3
    · simp only [if_neg c] at hf
      exact hf 1 _ τ' rfl ((gFC.of f1).tr g1) g2 g3)
  obtain ⟨t, key⟩ := key
  intro p τ hC hp h3 ha2 hf ho
  exact ⟨t, key p τ hC hp h3 ha2 hf (fun vs q τ' g1 g2 g3 g4 g5 g6 g7 => ho vs q τ' g1 g2 g3 g4 g5 g6 g7)⟩
theorem mo_44 : ∀ j : Fin 1, ([7] : List Nat).drop j = ([7] : List Nat).getD j 0 :: ([7] : List Nat).drop (j + 1) ∧ (gSV 44).getD j 0 = nI (([7] : List Nat).getD j 0) ∧ ([7] : List Nat).getD j 0 ≤ 1000 := by decide +kernel
set_option maxHeartbeats 1000000 in
theorem u_nums_f44 {b : Nat → Nat} {n a : Nat} {k : Int32 → gT → Prop} (ha : a < 80) : ∀ p τ, gCb b n τ → p ≤ n → τ.1 7 0 3 = nI p → τ.1 5 0 2 = nI a → (∀ f s τ', paS b n [7] p = .inl (f, s) → gFC τ τ' → τ'.1 5 0 3 = nI f → τ'.1 5 0 4 = nI s → k 0 τ') → (∀ vs q τ', paS b n [7] p = .inr (vs, q) → gFC τ τ' → τ'.1 5 0 2 = nI a → τ'.1 7 0 3 = nI q → τ'.1 19 = τ.1 19 → (∀ c, c < a * 5 → τ'.1 20 0 c = τ.1 20 0 c) → (∀ i, i < vs.length → τ'.1 20 0 (a * 5 + i) = nI (vs.getD i 0)) → k 1 τ') → ∃ t, wX5_readAct_f44_36 k t 0 τ := by
  have key := gloop (N := 1) (fun t j => ∀ p τ, gCb b n τ → p ≤ n → τ.1 7 0 3 = nI p → τ.1 5 0 2 = nI a → (∀ f s τ', paS b n (([7] : List Nat).drop j) p = .inl (f, s) → gFC τ τ' → τ'.1 5 0 3 = nI f → τ'.1 5 0 4 = nI s → k 0 τ') → (∀ vs q τ', paS b n (([7] : List Nat).drop j) p = .inr (vs, q) → gFC τ τ' → τ'.1 5 0 2 = nI a → τ'.1 7 0 3 = nI q → τ'.1 19 = τ.1 19 → (∀ c, c < a * 5 + j → τ'.1 20 0 c = τ.1 20 0 c) → (∀ i, i < vs.length → τ'.1 20 0 (a * 5 + j + i) = nI (vs.getD i 0)) → k 1 τ') → wX5_readAct_f44_36 k t (nI j) τ) (by
    intro p τ hC hp h3 ha2 hf ho
    have e0 : ([7] : List Nat).drop 1 = [] := rfl
    simp only [e0, paS_nil] at hf ho
    unfold wX5_readAct_f44_36 wX5_readAct_f44_125
    refine ⟨fun _ => u_next hC hp h3 (fun τ1 f1 f2 f3 f4 _ => ?_), fun z => absurd (by decide) z⟩
    have kl := kS_le (b := b) (n := n) (s := tS b n p)
    rw [f4, show (3 : Int32) = nI 3 from rfl, nI_eq (by omega) (by decide)]
    refine ⟨fun c => ⟨Or.inr rfl, ?_⟩, fun c => u_faulty (x := 1) f2 (fun τ' g1 g2 g3 => ⟨fun _ => ⟨Or.inl rfl, ?_⟩, fun z => absurd rfl z⟩)⟩
    · simp only [if_pos c] at ho
      exact ho [] _ τ1 rfl (gFC.of f1) (by rw [f1.1 5 (by decide)]; exact ha2) f3 (f1.1 19 (by decide)) (fun c _ => by rw [f1.1 20 (by decide)]) (fun i hi => absurd hi (Nat.not_lt_zero i))
    · simp only [if_neg c] at hf
      exact hf 1 _ τ' rfl ((gFC.of f1).tr g1) g2 g3) (by
    intro t j hj ih p τ hC hp h3 ha2 hf ho
    obtain ⟨d1, d2, d3⟩ := mo_44 ⟨j, hj⟩
    dsimp only at d1 d2 d3
    simp only [d1, paS_cons] at hf ho
    unfold wX5_readAct_f44_36
    refine ⟨fun z => absurd z (nI_ge (b := 1) hj (by decide)), fun _ => u_next hC hp h3 (fun τ1 f1 f2 f3 f4 f5 => ?_)⟩
    have kl := kS_le (b := b) (n := n) (s := tS b n p)
    have a5 : τ1.1 5 0 2 = nI a := by rw [f1.1 5 (by decide)]; exact ha2
    have tb := tS_bd (b := b) hp
    have eb := eS_bd (b := b) tb.2
    rw [f4, show (2 : Int32) = nI 2 from rfl, nI_eq (by omega) (by decide), a5, show nI a * (5 : Int32) = nI (a * 5) from pk_mul a 5, nI_add, nI_1, nI_clamp (show a * 5 + j < 2 ^ 31 by omega), nI_clamp (show j < 2 ^ 31 by omega), d2]
    refine ⟨fun c => ⟨vp_in_nI hj (by decide), ?_⟩, fun c => u_faulty (x := 1) f2 (fun τ' g1 g2 g3 => ⟨Or.inl rfl, ?_⟩)⟩
    · have hvl := vl_lt c
      have f5c : τ1.1 7 0 5 = nI (vl b n p) := f5 c
      rw [f5c]
      rw [nI_leI (show vl b n p < 2 ^ 31 by omega) (by omega)]
      refine ⟨fun c2 => ⟨vp_in_nI (by omega) (by decide), ?_⟩, fun c2 => u_faulty (x := 2) f2 (fun τ' g1 g2 g3 => ⟨Or.inl rfl, ?_⟩)⟩
      · have c2 : vl b n p ≤ ([7] : List Nat).getD j 0 := c2
        simp only [if_pos c, if_pos c2] at hf ho
        refine ih _ _ (hC.fc ((gFC.of f1).su (by decide))) eb.2.1 (by rw [gsu_f (by decide)]; exact f3) (by rw [gsu_f (by decide)]; exact a5) (fun f s τ' g1 g2 g3 g4 => ?_) (fun vs q τ' g1 g2 g3 g4 g5 g6 g7 => ?_)
        · rw [g1] at hf
          exact hf f s τ' rfl (((gFC.of f1).su (by decide)).tr g2) g3 g4
        · rw [g1] at ho
          refine ho (vl b n p :: vs) q τ' rfl (((gFC.of f1).su (by decide)).tr g2) g3 g4 ?_ (fun x hx => ?_) (fun i hi => ?_)
          · rw [g5, gsu_fam (by decide)]
            exact f1.1 19 (by decide)
          · rw [g6 x (by omega), gsu_s (by omega), f1.1 20 (by decide)]
          · cases i with
            | zero =>
              rw [Nat.add_zero, g6 (a * 5 + j) (by omega), gsu_e]
              rfl
            | succ i =>
              rw [List.getD_cons_succ, show a * 5 + j + (i + 1) = a * 5 + (j + 1) + i by omega]
              exact g7 i (by rw [List.length_cons] at hi; omega)
      · have c2 : ¬ vl b n p ≤ ([7] : List Nat).getD j 0 := c2
        simp only [if_pos c, if_neg c2] at hf
        exact hf 2 _ τ' rfl ((gFC.of f1).tr g1) g2 g3
    · simp only [if_neg c] at hf
      exact hf 1 _ τ' rfl ((gFC.of f1).tr g1) g2 g3)
  obtain ⟨t, key⟩ := key
  intro p τ hC hp h3 ha2 hf ho
  exact ⟨t, key p τ hC hp h3 ha2 hf (fun vs q τ' g1 g2 g3 g4 g5 g6 g7 => ho vs q τ' g1 g2 g3 g4 g5 g6 g7)⟩
