/-! PURE: the model's reading of an act -/
def gMA (b : Nat → Nat) (n p : Nat) (τ : gT) : Prop := gCm b n τ ∧ p ≤ n ∧ τ.1 10 0 15 = nI (tS b n p) ∧ τ.1 10 0 13 = nI (eS b n (tS b n p)) ∧ τ.1 10 0 16 = nI (eS b n (tS b n p)) ∧ τ.1 10 0 14 = nI (mK (kS b n (tS b n p))) ∧ τ.1 10 0 17 = 0
def gMF (f s : Nat) (τ : gT) : Prop := τ.1 10 0 17 = nI f ∧ 0 < f ∧ f < 3 ∧ τ.1 10 0 18 = nI s
def gFP (σ τ : gT) : Prop := (∀ a, a ≠ 10 → τ.1 a = σ.1 a) ∧ ∀ c, (c < 13 ∨ 18 < c) → τ.1 10 0 c = σ.1 10 0 c
theorem gFP.rf {σ : gT} : gFP σ σ := ⟨fun _ _ => rfl, fun _ _ => rfl⟩
theorem gFP.tr {σ τ ρ : gT} (h : gFP σ τ) (g : gFP τ ρ) : gFP σ ρ := ⟨fun a ha => (g.1 a ha).trans (h.1 a ha), fun c hc => (g.2 c hc).trans (h.2 c hc)⟩
theorem gFP.of {σ τ : gT} (h : gF10 σ τ) : gFP σ τ := ⟨h.1, fun c hc => h.2 c (by omega) (by omega) (by omega) (by omega)⟩
theorem gFP.su {σ τ : gT} {j : Nat} {x : Int32} (h : gFP σ τ) (hj : 13 ≤ j ∧ j ≤ 18) : gFP σ (gsu τ 10 0 j x) := ⟨fun a ha => by rw [gsu_fam ha]; exact h.1 a ha, fun c hc => by rw [gsu_s (by omega)]; exact h.2 c hc⟩
theorem gCm.fp {b : Nat → Nat} {n : Nat} {σ τ : gT} (h : gCm b n σ) (g : gFP σ τ) : gCm b n τ := ⟨(g.2 12 (by decide)).trans h.1, h.2.1, fun q hq => ⟨(h.2.2 q hq).1, by rw [g.1 35 (by decide)]; exact (h.2.2 q hq).2⟩⟩
theorem gMF.nz {f s : Nat} {τ : gT} (h : gMF f s τ) : ¬ τ.1 10 0 17 = 0 := by rw [h.1]; exact nI_ne0 h.2.1 (by have := h.2.2.1; omega)
theorem v_go {b : Nat → Nat} {n q : Nat} {τ : gT} {k : gT → Prop} (hC : gCm b n τ) (hq : q ≤ n) (h13 : τ.1 10 0 13 = nI q) (h17 : τ.1 10 0 17 = 0) (h : ∀ τ', gFP τ τ' → gMA b n q τ' → k τ') : wX10_step τ k :=
  v_step hC hq h13 (fun τ' f1 f2 f3 f4 f5 => h τ' (gFP.of f1) ⟨hC.fr f1, hq, f2, f3, f4, f5, (f1.2 17 (by decide) (by decide) (by decide) (by decide)).trans h17⟩)
theorem v_must_y {b : Nat → Nat} {n p : Nat} {x : Int32} {τ : gT} {k : gT → Prop} (hx : ¬ x = 0) (hA : gMA b n p τ) (h : ∀ τ', gFP τ τ' → gMA b n (eS b n (tS b n p)) τ' → k τ') : wX10_must x τ k := by
  unfold wX10_must wX10_must_9
  refine ⟨fun _ => ⟨fun z => absurd hA.2.2.2.2.2.2 z, fun _ => ?_⟩, fun z => absurd z hx⟩
  exact v_go hA.1 (eS_bd (b := b) (tS_bd (b := b) hA.2.1).2).2.1 hA.2.2.2.1 hA.2.2.2.2.2.2 h
theorem v_bad {b : Nat → Nat} {n p f : Nat} {τ : gT} {k : gT → Prop} (hf : 0 < f ∧ f < 3) (hA : gMA b n p τ) (h : ∀ τ', gFP τ τ' → gMF f (tS b n p) τ' → τ'.1 10 0 14 = τ.1 10 0 14 → k τ') : wX10_bad (nI f) τ k := by
  unfold wX10_bad
  refine ⟨fun z => absurd hA.2.2.2.2.2.2 z, fun _ => h _ ((gFP.rf.su (by decide)).su (by decide)) ⟨?_, hf.1, hf.2, ?_⟩ ?_⟩
  · rw [gsu_s (by decide), gsu_e]
  · rw [gsu_e, gsu_s (by decide)]; exact hA.2.2.1
  · rw [gsu_s (by decide), gsu_s (by decide)]
theorem v_must_n {b : Nat → Nat} {n p : Nat} {τ : gT} {k : gT → Prop} (hA : gMA b n p τ) (h : ∀ τ', gFP τ τ' → gMF 1 (tS b n p) τ' → k τ') : wX10_must 0 τ k := by
  unfold wX10_must wX10_must_9
  refine ⟨fun z => absurd rfl z, fun _ => v_bad (f := 1) (by decide) hA (fun τ' f1 f2 _ => ⟨fun _ => h τ' f1 f2, fun z => absurd z f2.nz⟩)⟩
theorem v_nTo_f {f s : Nat} {x : Int32} {τ : gT} {k : Int32 → gT → Prop} (hF : gMF f s τ) (h : k 0 τ) : wX10_numberTo x τ k := by
  unfold wX10_numberTo
  rw [hF.1]
  have h1 := hF.2.1
  have h2 := hF.2.2.1
  exact ⟨fun z => absurd z (nI_nle h1 (by omega)), fun _ => h⟩
theorem mK_num {b : Nat → Nat} {n s i j : Nat} (hj : j < 6) (hm : ∀ k : Fin 5, mK k = j ↔ (k : Nat) = i) : nI (mK (kS b n s)) = nI j ↔ kS b n s = i := by
  have kl := kS_le (b := b) (n := n) (s := s)
  have ml : mK (kS b n s) ≤ 5 := by unfold mK; split <;> omega
  rw [nI_eq (by omega) (by omega)]
  exact hm ⟨kS b n s, by omega⟩
set_option maxHeartbeats 1000000 in
theorem v_nTo {b : Nat → Nat} {n p M : Nat} {τ : gT} {k : Int32 → gT → Prop} (hM : M ≤ 1000) (hA : gMA b n p τ) (ok : kS b n (tS b n p) = 2 → vl b n p ≤ M → ∀ τ', gFP τ τ' → gMA b n (eS b n (tS b n p)) τ' → k (nI (vl b n p)) τ') (f2 : kS b n (tS b n p) = 2 → ¬ vl b n p ≤ M → ∀ τ' x, gFP τ τ' → gMF 2 (tS b n p) τ' → k x τ') (f1 : ¬ kS b n (tS b n p) = 2 → ∀ τ' x, gFP τ τ' → gMF 1 (tS b n p) τ' → k x τ') : wX10_numberTo (nI M) τ k := by
  obtain ⟨hC, hp, h15, h13, h16, h14, h17⟩ := id hA
  have hn := hC.2.1
  have tb := tS_bd (b := b) hp
  have eb := eS_bd (b := b) tb.2
  have m3 : τ.1 10 0 14 = 3 ↔ kS b n (tS b n p) = 2 := by rw [h14]; exact mK_num (i := 2) (j := 3) (by decide) (by decide)
  unfold wX10_numberTo
  rw [h17]
  refine ⟨fun _ => ?_, fun z => absurd (by decide) z⟩
  by_cases c : kS b n (tS b n p) = 2
  · have hv := vl_lt c
    obtain ⟨d1, d2, d3⟩ := kS_num c
    have hdig : ∀ x, x < eS b n (tS b n p) - tS b n p → 48 ≤ b (tS b n p + x) ∧ b (tS b n p + x) ≤ 57 := fun x hx => of_decide_eq_true ((sk_all (P := cF b) (n := n) _ (tS b n p) rfl tb.2).2.2.1 (tS b n p + x) (by omega) (by rw [← d2]; omega))
    have fin : wX10_numberTo_53 k (nI M) (nI (vl b n p)) τ := by
      unfold wX10_numberTo_53 wX10_numberTo_71 wX10_numberTo_85
      rw [m3, nI_leI (by omega) (by omega)]
      refine ⟨fun z => absurd c z, fun _ => ⟨fun c2 => ⟨fun z => absurd c z, fun _ => v_must_y (by decide) hA (ok c c2)⟩, fun c2 => v_bad (f := 2) (by decide) hA (fun τ' g1 g2 g3 => ?_)⟩⟩
      rw [g3, m3]
      refine ⟨fun z => absurd c z, fun _ => ?_⟩
      unfold wX10_must wX10_must_9
      exact ⟨fun _ => ⟨fun _ => f2 c c2 τ' _ g1 g2, fun z => absurd z g2.nz⟩, fun z => absurd z (by decide)⟩
    rw [h15]
    refine gloop (N := eS b n (tS b n p) - tS b n p) (fun t j => wX10_numberTo_16 k t (nI M) (nI (dgv b (tS b n p) j)) (nI (tS b n p + j)) τ) ?_ ?_
    · unfold wX10_numberTo_16
      rw [h16, show tS b n p + (eS b n (tS b n p) - tS b n p) = eS b n (tS b n p) by omega]
      exact ⟨fun _ => fin, fun z => absurd (nI_le (Nat.le_refl _) (by omega)) z⟩
    · intro t j hj ih
      have hd := hdig j hj
      have hlt := dgv_lt (b := b) (s := tS b n p) (m := j) (fun x hx => hdig x (by omega))
      have hp5 : 10 ^ j ≤ 10 ^ 5 := Nat.pow_le_pow_right (by decide) (by omega)
      have ed : dgv b (tS b n p) (j + 1) = 10 * dgv b (tS b n p) j + b (tS b n p + j) - 48 := rfl
      unfold wX10_numberTo_16
      rw [h16, m3, nI_clamp (show tS b n p + j < 2 ^ 31 by omega), (hC.2.2 (tS b n p + j) (by omega)).2, show (10 : Int32) * nI (dgv b (tS b n p) j) = nI (10 * dgv b (tS b n p) j) from pk_mul 10 _, nI_add, show (48 : Int32) = nI 48 from rfl, pk_sub (by omega), ← ed, nI_1]
      exact ⟨fun z => absurd z (nI_ge (by omega) (by omega)), fun _ => ⟨fun z => absurd c z, fun _ => ⟨vp_in_nI (by omega) (by decide), ih⟩⟩⟩
  · have fin : wX10_numberTo_53 k (nI M) 0 τ := by
      unfold wX10_numberTo_53 wX10_numberTo_71 wX10_numberTo_85
      rw [m3]
      exact ⟨fun _ => ⟨fun _ => v_must_n hA (fun τ' g1 g2 => f1 c τ' _ g1 g2), fun z => absurd z c⟩, fun z => absurd z c⟩
    refine ⟨1, ?_⟩
    unfold wX10_numberTo_16
    rw [m3]
    exact ⟨fun _ => fin, fun _ => ⟨fun _ => fin, fun z => absurd z c⟩⟩
-- a chain of numbers
def ch (K : List Int32 → gT → Prop) : List Nat → gT → Prop
  | [], τ => K [] τ
  | M :: ms, τ => wX10_numberTo (nI M) τ (fun r s => ch (fun l => K (r :: l)) ms s)
def paN (b : Nat → Nat) (n : Nat) : List Nat → Nat → Sum (Nat × Nat) (List Nat × Nat)
  | [], p => .inr ([], p)
  | M :: ms, p => if kS b n (tS b n p) = 2 then (if vl b n p ≤ M then (match paN b n ms (eS b n (tS b n p)) with
    | .inl f => .inl f
    | .inr r => .inr (vl b n p :: r.1, r.2)) else .inl (2, tS b n p)) else .inl (1, tS b n p)
theorem paN_cons {b : Nat → Nat} {n p M : Nat} {ms : List Nat} : paN b n (M :: ms) p = if kS b n (tS b n p) = 2 then (if vl b n p ≤ M then (match paN b n ms (eS b n (tS b n p)) with
    | .inl f => .inl f
    | .inr r => .inr (vl b n p :: r.1, r.2)) else .inl (2, tS b n p)) else .inl (1, tS b n p) := rfl
set_option maxHeartbeats 1000000 in
theorem paS_N {b : Nat → Nat} {n : Nat} : ∀ (ms : List Nat) (p : Nat), paS b n ms p = (match paN b n ms p with
    | .inl f => .inl f
    | .inr r => if kS b n (tS b n r.2) = 3 then .inr (r.1, eS b n (tS b n r.2)) else .inl (1, tS b n r.2))
  | [], p => rfl
  | M :: ms, p => by
    rw [paS_cons, paN_cons, paS_N ms]
    by_cases c : kS b n (tS b n p) = 2
    · rw [if_pos c, if_pos c]
      by_cases c2 : vl b n p ≤ M
      · rw [if_pos c2, if_pos c2]
        cases paN b n ms (eS b n (tS b n p)) with
        | inl f => rfl
        | inr r =>
          dsimp only
          by_cases c3 : kS b n (tS b n r.2) = 3
          · rw [if_pos c3, if_pos c3]
          · rw [if_neg c3, if_neg c3]
      · rw [if_neg c2, if_neg c2]
    · rw [if_neg c, if_neg c]
theorem ch_f {f s : Nat} : ∀ (ms : List Nat) (K : List Int32 → gT → Prop) (τ : gT), gMF f s τ → (∀ l, K l τ) → ch K ms τ
  | [], K, τ, _, h => h []
  | M :: ms, K, τ, hF, h => v_nTo_f hF (ch_f ms _ τ hF (fun l => h (0 :: l)))
set_option maxHeartbeats 1000000 in
theorem v_ch {b : Nat → Nat} {n : Nat} : ∀ (ms : List Nat) (K : List Int32 → gT → Prop) (p : Nat) (τ : gT), (∀ M, M ∈ ms → M ≤ 1000) → gMA b n p τ → (∀ vs q τ', paN b n ms p = .inr (vs, q) → gFP τ τ' → gMA b n q τ' → K (vs.map nI) τ') → (∀ f s l τ', paN b n ms p = .inl (f, s) → gFP τ τ' → gMF f s τ' → K l τ') → ch K ms τ
  | [], K, p, τ, _, hA, ho, _ => ho [] p τ rfl gFP.rf hA
  | M :: ms, K, p, τ, hM, hA, ho, hf => by
    rw [paN_cons] at ho hf
    refine v_nTo (hM M List.mem_cons_self) hA (fun c c2 τ1 f1 A1 => ?_) (fun c c2 τ1 x f1 F1 => ?_) (fun c τ1 x f1 F1 => ?_)
    · rw [if_pos c, if_pos c2] at ho hf
      refine v_ch ms _ _ τ1 (fun m hm => hM m (List.mem_cons_of_mem _ hm)) A1 (fun vs q τ' g1 g2 g3 => ?_) (fun f s l τ' g1 g2 g3 => ?_)
      · rw [g1] at ho
        exact ho (vl b n p :: vs) q τ' rfl (f1.tr g2) g3
      · rw [g1] at hf
        exact hf f s _ τ' rfl (f1.tr g2) g3
    · rw [if_pos c, if_neg c2] at hf
      exact ch_f ms _ τ1 F1 (fun l => hf 2 _ _ τ1 rfl f1 F1)
    · rw [if_neg c] at hf
      exact ch_f ms _ τ1 F1 (fun l => hf 1 _ _ τ1 rfl f1 F1)
-- in a fault all the rest does nothing
section FAULT
variable {f s : Nat} {τ : gT} {k : gT → Prop} (hF : gMF f s τ) (h : k τ)
theorem f_218 (hF : gMF f s τ) (h : k τ) {y : Int64} {x3 x4 x5 x6 x7 : Int32} : wX10_readAct_218 k y x3 x4 x5 x6 x7 τ := by
  unfold wX10_readAct_218
  exact ⟨fun _ => h, fun z => absurd z hF.nz⟩
theorem f_194 (hF : gMF f s τ) (h : k τ) {y : Int64} {x3 x4 x5 x6 x7 : Int32} : wX10_readAct_194 k y x3 x4 x5 x6 x7 τ := by
  unfold wX10_readAct_194
  exact ⟨fun _ => f_218 hF h, fun z => absurd z hF.nz⟩
theorem f_187 (hF : gMF f s τ) (h : k τ) {y : Int64} {x3 x4 x5 x6 : Int32} : wX10_readAct_187 k y x3 x4 x5 x6 τ := by
  unfold wX10_readAct_187
  exact v_nTo_f hF (f_194 hF h)
theorem f_163 (hF : gMF f s τ) (h : k τ) {y : Int64} {x3 x4 x5 x6 x7 : Int32} : wX10_readAct_163 k y x3 x4 x5 x6 x7 τ := by
  unfold wX10_readAct_163
  exact ⟨fun _ => f_187 hF h, fun _ => ⟨fun _ => f_187 hF h, fun _ => ⟨fun _ => f_194 hF h, fun _ => f_187 hF h⟩⟩⟩
theorem f_154 (hF : gMF f s τ) (h : k τ) {y : Int64} {x3 x4 x5 x7 : Int32} : wX10_readAct_154 k y x3 x4 x5 x7 τ := by
  unfold wX10_readAct_154
  exact v_nTo_f hF (f_163 hF h)
theorem f_138 (hF : gMF f s τ) (h : k τ) {y : Int64} {x3 x4 x5 x6 x7 : Int32} : wX10_readAct_138 k y x3 x4 x5 x6 x7 τ := by
  unfold wX10_readAct_138
  exact ⟨fun _ => f_154 hF h, fun _ => ⟨fun _ => f_163 hF h, fun _ => f_154 hF h⟩⟩
end FAULT
theorem v_67_n {b : Nat → Nat} {n p : Nat} {y : Int64} {τ : gT} {k : gT → Prop} (hA : gMA b n p τ) (h : ∀ τ', gFP τ τ' → gMF 1 (tS b n p) τ' → k τ') : wX10_readAct_67 k y 0 τ := by
  unfold wX10_readAct_67
  refine v_must_n hA (fun τ' f1 F1 => v_nTo_f F1 ?_)
  have hk := h τ' f1 F1
  exact ⟨fun _ => ⟨fun _ => f_138 F1 hk, fun _ => ⟨fun _ => f_138 F1 hk, fun _ => v_nTo_f F1 (v_nTo_f F1 (f_138 F1 hk))⟩⟩, fun _ => v_nTo_f F1 (f_138 F1 hk)⟩
theorem v_67_0 {τ : gT} {k : gT → Prop} (h : wX10_must 1 τ (fun s => ch (fun l ρ => wX10_readAct_194 k (lN (ww 0)) (l.getD 0 0) (l.getD 1 0) (l.getD 2 0) (l.getD 3 0) (l.getD 4 0) ρ) [7, 3, 3, 1000, 3] s)) : wX10_readAct_67 k (lN (ww 0)) 1 τ := by
  have c0 : (lg_cmp (lN (ww 0)) (482905517684 : Int64) = 0) = True := eq_true (by decide)
  have c1 : (lg_cmp (lN (ww 0)) (482854661733 : Int64) = 0) = False := eq_false (by decide)
  have c2 : (lg_cmp (lN (ww 0)) (6580589 : Int64) = 0) = False := eq_false (by decide)
  have c3 : (lg_cmp (lN (ww 0)) (1953854062 : Int64) = 0) = False := eq_false (by decide)
  have c4 : (lg_cmp (lN (ww 0)) (6382692 : Int64) = 0) = False := eq_false (by decide)
  have c5 : (lg_cmp (lN (ww 0)) (7823737 : Int64) = 0) = False := eq_false (by decide)
  have c6 : (lg_cmp (lN (ww 0)) (2003398757 : Int64) = 0) = False := eq_false (by decide)
  unfold wX10_readAct_67 wX10_readAct_138 wX10_readAct_154 wX10_readAct_163 wX10_readAct_187
  simp only [c0, c1, c2, c3, c4, c5, c6, if0, if0n, if1, if1n, true_implies, not_true_eq_false, not_false_eq_true, false_implies, and_true, true_and, implies_true]
  exact h
theorem v_67_1 {τ : gT} {k : gT → Prop} (h : wX10_must 1 τ (fun s => ch (fun l ρ => wX10_readAct_194 k (lN (ww 1)) (l.getD 0 0) (l.getD 1 0) (l.getD 2 0) (l.getD 3 0) (l.getD 4 0) ρ) [7, 3, 3, 1000, 3] s)) : wX10_readAct_67 k (lN (ww 1)) 1 τ := by
  have c0 : (lg_cmp (lN (ww 1)) (482905517684 : Int64) = 0) = False := eq_false (by decide)
  have c1 : (lg_cmp (lN (ww 1)) (482854661733 : Int64) = 0) = True := eq_true (by decide)
  have c2 : (lg_cmp (lN (ww 1)) (6580589 : Int64) = 0) = False := eq_false (by decide)
  have c3 : (lg_cmp (lN (ww 1)) (1953854062 : Int64) = 0) = False := eq_false (by decide)
  have c4 : (lg_cmp (lN (ww 1)) (6382692 : Int64) = 0) = False := eq_false (by decide)
  have c5 : (lg_cmp (lN (ww 1)) (7823737 : Int64) = 0) = False := eq_false (by decide)
  have c6 : (lg_cmp (lN (ww 1)) (2003398757 : Int64) = 0) = False := eq_false (by decide)
  unfold wX10_readAct_67 wX10_readAct_138 wX10_readAct_154 wX10_readAct_163 wX10_readAct_187
  simp only [c0, c1, c2, c3, c4, c5, c6, if0, if0n, if1, if1n, true_implies, not_true_eq_false, not_false_eq_true, false_implies, and_true, true_and, implies_true]
  exact h
theorem v_67_2 {τ : gT} {k : gT → Prop} (h : wX10_must 1 τ (fun s => ch (fun l ρ => wX10_readAct_194 k (lN (ww 2)) (l.getD 0 0) (l.getD 1 0) (l.getD 2 0) 0 0 ρ) [7, 3, 3] s)) : wX10_readAct_67 k (lN (ww 2)) 1 τ := by
  have c0 : (lg_cmp (lN (ww 2)) (482905517684 : Int64) = 0) = False := eq_false (by decide)
  have c1 : (lg_cmp (lN (ww 2)) (482854661733 : Int64) = 0) = False := eq_false (by decide)
  have c2 : (lg_cmp (lN (ww 2)) (6580589 : Int64) = 0) = True := eq_true (by decide)
  have c3 : (lg_cmp (lN (ww 2)) (1953854062 : Int64) = 0) = False := eq_false (by decide)
  have c4 : (lg_cmp (lN (ww 2)) (6382692 : Int64) = 0) = False := eq_false (by decide)
  have c5 : (lg_cmp (lN (ww 2)) (7823737 : Int64) = 0) = False := eq_false (by decide)
  have c6 : (lg_cmp (lN (ww 2)) (2003398757 : Int64) = 0) = False := eq_false (by decide)
  unfold wX10_readAct_67 wX10_readAct_138 wX10_readAct_154 wX10_readAct_163 wX10_readAct_187
  simp only [c0, c1, c2, c3, c4, c5, c6, if0, if0n, if1, if1n, true_implies, not_true_eq_false, not_false_eq_true, false_implies, and_true, true_and, implies_true]
  exact h
theorem v_67_3 {τ : gT} {k : gT → Prop} (h : wX10_must 1 τ (fun s => ch (fun l ρ => wX10_readAct_194 k (lN (ww 3)) (l.getD 0 0) (l.getD 1 0) (l.getD 2 0) 0 (l.getD 3 0) ρ) [7, 3, 3, 3] s)) : wX10_readAct_67 k (lN (ww 3)) 1 τ := by
  have c0 : (lg_cmp (lN (ww 3)) (482905517684 : Int64) = 0) = False := eq_false (by decide)
  have c1 : (lg_cmp (lN (ww 3)) (482854661733 : Int64) = 0) = False := eq_false (by decide)
  have c2 : (lg_cmp (lN (ww 3)) (6580589 : Int64) = 0) = False := eq_false (by decide)
  have c3 : (lg_cmp (lN (ww 3)) (1953854062 : Int64) = 0) = True := eq_true (by decide)
  have c4 : (lg_cmp (lN (ww 3)) (6382692 : Int64) = 0) = False := eq_false (by decide)
  have c5 : (lg_cmp (lN (ww 3)) (7823737 : Int64) = 0) = False := eq_false (by decide)
  have c6 : (lg_cmp (lN (ww 3)) (2003398757 : Int64) = 0) = False := eq_false (by decide)
  unfold wX10_readAct_67 wX10_readAct_138 wX10_readAct_154 wX10_readAct_163 wX10_readAct_187
  simp only [c0, c1, c2, c3, c4, c5, c6, if0, if0n, if1, if1n, true_implies, not_true_eq_false, not_false_eq_true, false_implies, and_true, true_and, implies_true]
  exact h
theorem v_67_4 {τ : gT} {k : gT → Prop} (h : wX10_must 1 τ (fun s => ch (fun l ρ => wX10_readAct_194 k (lN (ww 4)) (l.getD 0 0) (l.getD 1 0) 0 0 0 ρ) [7, 7] s)) : wX10_readAct_67 k (lN (ww 4)) 1 τ := by
  have c0 : (lg_cmp (lN (ww 4)) (482905517684 : Int64) = 0) = False := eq_false (by decide)
  have c1 : (lg_cmp (lN (ww 4)) (482854661733 : Int64) = 0) = False := eq_false (by decide)
  have c2 : (lg_cmp (lN (ww 4)) (6580589 : Int64) = 0) = False := eq_false (by decide)
  have c3 : (lg_cmp (lN (ww 4)) (1953854062 : Int64) = 0) = False := eq_false (by decide)
  have c4 : (lg_cmp (lN (ww 4)) (6382692 : Int64) = 0) = True := eq_true (by decide)
  have c5 : (lg_cmp (lN (ww 4)) (7823737 : Int64) = 0) = False := eq_false (by decide)
  have c6 : (lg_cmp (lN (ww 4)) (2003398757 : Int64) = 0) = False := eq_false (by decide)
  unfold wX10_readAct_67 wX10_readAct_138 wX10_readAct_154 wX10_readAct_163 wX10_readAct_187
  simp only [c0, c1, c2, c3, c4, c5, c6, if0, if0n, if1, if1n, true_implies, not_true_eq_false, not_false_eq_true, false_implies, and_true, true_and, implies_true]
  exact h
theorem v_67_5 {τ : gT} {k : gT → Prop} (h : wX10_must 1 τ (fun s => ch (fun l ρ => wX10_readAct_194 k (lN (ww 5)) (l.getD 0 0) 0 0 0 0 ρ) [7] s)) : wX10_readAct_67 k (lN (ww 5)) 1 τ := by
  have c0 : (lg_cmp (lN (ww 5)) (482905517684 : Int64) = 0) = False := eq_false (by decide)
  have c1 : (lg_cmp (lN (ww 5)) (482854661733 : Int64) = 0) = False := eq_false (by decide)
  have c2 : (lg_cmp (lN (ww 5)) (6580589 : Int64) = 0) = False := eq_false (by decide)
  have c3 : (lg_cmp (lN (ww 5)) (1953854062 : Int64) = 0) = False := eq_false (by decide)
  have c4 : (lg_cmp (lN (ww 5)) (6382692 : Int64) = 0) = False := eq_false (by decide)
  have c5 : (lg_cmp (lN (ww 5)) (7823737 : Int64) = 0) = True := eq_true (by decide)
  have c6 : (lg_cmp (lN (ww 5)) (2003398757 : Int64) = 0) = False := eq_false (by decide)
  unfold wX10_readAct_67 wX10_readAct_138 wX10_readAct_154 wX10_readAct_163 wX10_readAct_187
  simp only [c0, c1, c2, c3, c4, c5, c6, if0, if0n, if1, if1n, true_implies, not_true_eq_false, not_false_eq_true, false_implies, and_true, true_and, implies_true]
  exact h
set_option maxHeartbeats 1000000 in
theorem v_67_6 {τ : gT} {k : gT → Prop} (h : wX10_must 1 τ (fun s => ch (fun l ρ => wX10_readAct_194 k (lN (ww 6)) (l.getD 0 0) 0 0 0 0 ρ) [7] s)) : wX10_readAct_67 k (lN (ww 6)) 1 τ := by
  have c0 : (lg_cmp (lN (ww 6)) (482905517684 : Int64) = 0) = False := eq_false (by decide)
  have c1 : (lg_cmp (lN (ww 6)) (482854661733 : Int64) = 0) = False := eq_false (by decide)
  have c2 : (lg_cmp (lN (ww 6)) (6580589 : Int64) = 0) = False := eq_false (by decide)
  have c3 : (lg_cmp (lN (ww 6)) (1953854062 : Int64) = 0) = False := eq_false (by decide)
  have c4 : (lg_cmp (lN (ww 6)) (6382692 : Int64) = 0) = False := eq_false (by decide)
  have c5 : (lg_cmp (lN (ww 6)) (7823737 : Int64) = 0) = False := eq_false (by decide)
  have c6 : (lg_cmp (lN (ww 6)) (2003398757 : Int64) = 0) = True := eq_true (by decide)
  unfold wX10_readAct_67 wX10_readAct_138 wX10_readAct_154 wX10_readAct_163 wX10_readAct_187
  simp only [c0, c1, c2, c3, c4, c5, c6, if0, if0n, if1, if1n, true_implies, not_true_eq_false, not_false_eq_true, false_implies, and_true, true_and, implies_true]
  exact h
