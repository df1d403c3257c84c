/-! PURE: ask -/
def gs32 (f : Nat → Int32) : Nat → Int32
  | 0 => 0
  | n + 1 => gs32 f n + f n
theorem gs32_cong {f g : Nat → Int32} : ∀ {n : Nat}, (∀ j, j < n → f j = g j) → gs32 f n = gs32 g n
  | 0, _ => rfl
  | n + 1, h => by
    show gs32 f n + f n = gs32 g n + g n
    rw [gs32_cong (fun j hj => h j (by omega)), h n (by omega)]
def gmx (f : Nat → Int32) : Nat → Int32
  | 0 => 0
  | n + 1 => if gmx f n < f n then f n else gmx f n
theorem gmx_cong {f g : Nat → Int32} : ∀ {n : Nat}, (∀ j, j < n → f j = g j) → gmx f n = gmx g n
  | 0, _ => rfl
  | n + 1, h => by
    show (if gmx f n < f n then f n else gmx f n) = (if gmx g n < g n then g n else gmx g n)
    rw [gmx_cong (fun j hj => h j (by omega)), h n (by omega)]
theorem u_max {x y : Int32} {σ : gT} {k : Int32 → gT → Prop} (h : k (if x < y then y else x) σ) : wJ9_max_7cf53 x y σ k := by
  unfold wJ9_max_7cf53
  exact ⟨fun c => by rw [if_pos c] at h; exact h, fun c => by rw [if_neg c] at h; exact h⟩
/-- the grains of a plate within a set -/
def gtw (x : Int32) (g : Nat → Int32) : Int32 := gs32 (fun q => if ((x >>> (nI q &&& 31)) &&& 1) = 1 then gshw (g q) else 0) 16
set_option maxHeartbeats 1000000 in
theorem u_tw {i : Nat} {x : Int32} {g : Nat → Int32} {σ : gT} {k : Int32 → gT → Prop} (hs : ∀ q, q < 16 → σ.1 17 i q = gshw (g q)) (h : k (gtw x g) σ) : wX3_totalWithin i x σ k := by
  unfold wX3_totalWithin
  refine gloop (N := 16) (fun m j => wX3_totalWithin_4 k m i x (gs32 (fun q => if ((x >>> (nI q &&& 31)) &&& 1) = 1 then gshw (g q) else 0) j) (nI j) σ) ?_ ?_
  · unfold wX3_totalWithin_4
    exact ⟨fun _ => h, fun z => absurd (by decide) z⟩
  · intro n j hj hn
    have e : gs32 (fun q => if ((x >>> (nI q &&& 31)) &&& 1) = 1 then gshw (g q) else 0) (j + 1) = gs32 (fun q => if ((x >>> (nI q &&& 31)) &&& 1) = 1 then gshw (g q) else 0) j + (if ((x >>> (nI j &&& 31)) &&& 1) = 1 then gshw (g j) else 0) := rfl
    rw [e] at hn
    unfold wX3_totalWithin_4 wX3_totalWithin_28
    rw [nI_1, nI_clamp (show j < 2 ^ 31 by omega), hs j hj]
    refine ⟨fun z => absurd z (nI_ge (b := 16) hj (by decide)), fun _ => ⟨fun c => ?_, fun c => ⟨vp_in_nI hj (by decide), ?_⟩⟩⟩
    · rw [if_neg c, Int32.add_zero] at hn
      exact hn
    · rw [if_pos c] at hn
      exact hn
theorem all_bits : ∀ q : Fin 16, ((65535 : Int32) >>> (nI q &&& 31)) &&& 1 = 1 := by decide +kernel
def gto (g : Nat → Int32) : Int32 := gs32 (fun q => gshw (g q)) 16
theorem gtw_all (g : Nat → Int32) : gtw 65535 g = gto g := gs32_cong (fun j hj => if_pos (all_bits ⟨j, hj⟩))
theorem u_total {i : Nat} {g : Nat → Int32} {σ : gT} {k : Int32 → gT → Prop} (hs : ∀ q, q < 16 → σ.1 17 i q = gshw (g q)) (h : k (gto g) σ) : wX3_totalWithin i (65535 : Int32) σ k := by
  refine u_tw hs ?_
  rw [gtw_all]
  exact h
theorem u_great {i : Nat} {g : Nat → Int32} {σ : gT} {k : Int32 → gT → Prop} (hs : ∀ q, q < 16 → σ.1 17 i q = gshw (g q)) (h : k (gmx (fun q => gshw (g q)) 16) σ) : wX3_greatest i σ k := by
  unfold wX3_greatest
  refine gloop (N := 16) (fun m j => wX3_greatest_4 k m i (gmx (fun q => gshw (g q)) j) (nI j) σ) ?_ ?_
  · unfold wX3_greatest_4
    exact ⟨fun _ => h, fun z => absurd (by decide) z⟩
  · intro n j hj hn
    unfold wX3_greatest_4
    rw [nI_1, nI_clamp (show j < 2 ^ 31 by omega), hs j hj]
    exact ⟨fun z => absurd z (nI_ge (b := 16) hj (by decide)), fun _ => ⟨vp_in_nI hj (by decide), u_max hn⟩⟩
/-- the trace, as far as it has come -/
def gP9 (σ : gT) (L : Nat → Int32) (n : Nat) (τ : gT) : Prop := (∀ a, a ≠ 0 → a ≠ 11 → τ.1 a = σ.1 a) ∧ τ.1 0 0 1 = nI n ∧ ∀ q, q < n → τ.1 11 0 q = L q
def gP10 (σ : gT) (L : Nat → Int32) (n : Nat) (τ : gT) : Prop := (∀ a, a ≠ 10 → a ≠ 38 → τ.1 a = σ.1 a) ∧ (∀ c, c ≠ 24 → τ.1 10 0 c = σ.1 10 0 c) ∧ τ.1 10 0 24 = nI n ∧ ∀ q, q < n → τ.1 38 0 q = L q
set_option maxHeartbeats 1000000 in
theorem u_begin {σ τ : gT} {L : Nat → Int32} {n : Nat} {x : Int32} {k : gT → Prop} (hp : gP9 σ L n τ) (hn : n < 16) (hx : L n = x) (h : ∀ τ', gP9 σ L (n + 1) τ' → k τ') : wX0_begin x τ k := by
  unfold wX0_begin
  rw [hp.2.1, nI_clamp (show n < 2 ^ 31 by omega)]
  refine ⟨fun z => absurd z (nI_ge (b := 16) hn (by decide)), fun _ => ⟨vp_in_nI hn (by decide), h _ ⟨fun a h1 h2 => ?_, ?_, fun q hq => ?_⟩⟩⟩
  · funext b c
    rw [gsu_f h1, gsu_f h2, hp.1 a h1 h2]
  · rw [gsu_e, gsu_f (by decide), hp.2.1, nI_1]
  · rw [gsu_f (by decide)]
    by_cases e : q = n
    · subst e
      rw [gsu_e, hx]
    · rw [gsu_s e]
      exact hp.2.2 q (by omega)
set_option maxHeartbeats 1000000 in
theorem v_began {σ τ : gT} {L : Nat → Int32} {n : Nat} {x : Int32} {k : gT → Prop} (hp : gP10 σ L n τ) (hn : n < 16) (hx : L n = x) (h : ∀ τ', gP10 σ L (n + 1) τ' → k τ') : wX10_began x τ k := by
  unfold wX10_began
  rw [hp.2.2.1, nI_clamp (show n < 2 ^ 31 by omega)]
  refine ⟨fun z => absurd z (nI_ge (b := 16) hn (by decide)), fun _ => ⟨vp_in_nI hn (by decide), h _ ⟨fun a h1 h2 => ?_, fun c h1 => ?_, ?_, fun q hq => ?_⟩⟩⟩
  · funext b c
    rw [gsu_f h1, gsu_f h2, hp.1 a h1 h2]
  · rw [gsu_s h1, gsu_f (by decide), hp.2.1 c h1]
  · rw [gsu_e, gsu_f (by decide), hp.2.2.1, nI_1]
  · rw [gsu_f (by decide)]
    by_cases e : q = n
    · subst e
      rw [gsu_e, hx]
    · rw [gsu_s e]
      exact hp.2.2.2 q (by omega)
set_option maxHeartbeats 1000000 in
theorem gR_ask {σ τ ρ : gT} {L : Nat → Int32} {n : Nat} (h : gR σ) (hn : n ≤ 16) (h9 : gP9 σ L n τ) (h10 : gP10 (gsu (gsu (gsu (gsu τ 9 0 10 0) 10 0 0 0) 10 0 24 0) 10 0 1 0) L n ρ) : gR ρ := by
  have e : ∀ a b c, a ≠ 0 → a ≠ 11 → a ≠ 10 → a ≠ 38 → a ≠ 9 → ρ.1 a b c = σ.1 a b c := fun a b c a1 a2 a3 a4 a5 => by
    rw [h10.1 a a3 a4, gsu_f a3, gsu_f a3, gsu_f a3, gsu_f a5, h9.1 a a1 a2]
  have e10 : ∀ c, c ≠ 24 → c ≠ 1 → c ≠ 0 → ρ.1 10 0 c = σ.1 10 0 c := fun c c1 c2 c3 => by
    rw [h10.2.1 c c1, gsu_s c2, gsu_s c1, gsu_s c3, gsu_f (by decide), h9.1 10 (by decide) (by decide)]
  have e9 : ρ.1 9 0 9 = σ.1 9 0 9 := by
    rw [h10.1 9 (by decide) (by decide), gsu_f (by decide), gsu_f (by decide), gsu_f (by decide), gsu_s (by decide), h9.1 9 (by decide) (by decide)]
  refine ⟨(gRs_cong (fun a b c ha => e a b c (by omega) (by omega) (by omega) (by omega) (by omega))).mpr h.1, (gRw_cong (fun a b c ha => e a b c (by omega) (by omega) (by omega) (by omega) (by omega))).mpr h.2.1, (gRp_cong (fun a b c ha => e a b c (by omega) (by omega) (by omega) (by omega) (by omega))).mpr h.2.2.1, ?_, ?_, ?_, ?_⟩
  · obtain ⟨m, hm, a1, a2, a3⟩ := h.2.2.2.1
    refine ⟨m, hm, by rw [e 7 _ _ (by decide) (by decide) (by decide) (by decide) (by decide)]; exact a1, by rw [e10 10 (by decide) (by decide) (by decide)]; exact a2, fun q hq => ?_⟩
    rw [e 22 _ _ (by decide) (by decide) (by decide) (by decide) (by decide), e 35 _ _ (by decide) (by decide) (by decide) (by decide) (by decide)]
    exact a3 q hq
  · refine ⟨n, hn, ?_, h10.2.2.1, fun q hq => ?_⟩
    · rw [h10.1 0 (by decide) (by decide), gsu_f (by decide), gsu_f (by decide), gsu_f (by decide), gsu_f (by decide)]
      exact h9.2.1
    · rw [h10.2.2.2 q hq, h10.1 11 (by decide) (by decide), gsu_f (by decide), gsu_f (by decide), gsu_f (by decide), gsu_f (by decide), h9.2.2 q hq]
  · unfold gRf
    rw [e9, e10 11 (by decide) (by decide) (by decide)]
    exact h.2.2.2.2.2.1
  · unfold gRz
    rw [h10.2.1 1 (by decide), gsu_e, h10.1 9 (by decide) (by decide), gsu_f (by decide), gsu_f (by decide), gsu_f (by decide), gsu_e]
set_option maxHeartbeats 1000000 in
theorem v_clear11 {p n : Nat} {g : Nat → Int32} {s kd : Int32} {σ τ : gT} {L : Nat → Int32} {k : Int32 → gT → Prop} (hp : p < 6) (P : gP10 σ L n τ) (hn : n + 2 ≤ 16) (hg : ∀ q, q < 16 → σ.1 37 0 (16 * p + q) = g q) (hs : σ.1 36 0 p = s) (l1 : L n = 11) (l2 : L (n + 1) = 10) (h : ∀ τ', gP10 σ L (n + 2) τ' → k (if kd = 2 then 2 * (s + gs32 g 16) else s + gs32 g 16) τ') : wX10_clearSize_11 k (nI p) kd τ := by
  unfold wX10_clearSize_11
  refine v_began P (by omega) l1 (fun τ1 P1 => v_began P1 (by omega) l2 (fun τ2 P2 => ⟨vp_in_nI hp (by decide), ?_⟩))
  rw [nI_clamp (show p < 2 ^ 31 by omega), P2.1 36 (by decide) (by decide), hs]
  have h' := h τ2 P2
  have key := gloop (N := 16) (fun m j => wX10_clearSize_33 k m (nI p) kd (s + gs32 g j) (nI j) τ2) (by
    unfold wX10_clearSize_33
    refine ⟨fun _ => ⟨fun c => ?_, fun c => ?_⟩, fun z => absurd (by decide) z⟩
    · rw [if_neg c] at h'; exact h'
    · rw [if_pos c] at h'; exact h') (by
    intro m j hj hm
    unfold wX10_clearSize_33
    rw [ix16, nI_1, nI_clamp (show 16 * p + j < 2 ^ 31 by omega), P2.1 37 (by decide) (by decide), hg j hj, Int32.add_assoc]
    exact ⟨fun z => absurd z (nI_ge (b := 16) hj (by decide)), fun _ => ⟨vp_in_nI (by omega) (by decide), hm⟩⟩)
  rw [show s + gs32 g 0 = s from Int32.add_zero s] at key
  exact key
set_option maxHeartbeats 1000000 in
theorem v_mark31 {p n : Nat} {g : Nat → Int32} {kd : Int32} {σ τ : gT} {L : Nat → Int32} {k : Int32 → gT → Prop} (hp : p < 6) (P : gP10 σ L n τ) (hn : n + 2 ≤ 16) (hg : ∀ q, q < 16 → σ.1 37 0 (16 * p + q) = g q) (l1 : L n = 21) (l2 : L (n + 1) = 20) (h1 : ¬ kd = 2 → ∀ τ', gP10 σ L (n + 2) τ' → k (gmx g 16 + 1000) τ') (h2 : kd = 2 → ∀ τ', gP10 σ L (n + 2) τ' → wX10_clearSize (nI p) kd τ' (fun r2 s1 => k ((gmx g 16 + 1000) + r2) s1)) : wX10_markOf_31 k (nI p) kd τ := by
  unfold wX10_markOf_31
  refine v_began P (by omega) l1 (fun τ1 P1 => v_began P1 (by omega) l2 (fun τ2 P2 => ?_))
  refine gloop (N := 16) (fun m j => wX10_markOf_48 k m (nI p) kd (gmx g j) (nI j) τ2) ?_ ?_
  · unfold wX10_markOf_48
    rw [Int32.add_zero]
    exact ⟨fun _ => ⟨fun c => h1 c τ2 P2, fun c => h2 c τ2 P2⟩, fun z => absurd (by decide) z⟩
  · intro m j hj hm
    have e : gmx g (j + 1) = if gmx g j < g j then g j else gmx g j := rfl
    rw [e] at hm
    unfold wX10_markOf_48 wX10_markOf_87
    rw [ix16, nI_1, nI_clamp (show 16 * p + j < 2 ^ 31 by omega), P2.1 37 (by decide) (by decide), hg j hj]
    refine ⟨fun z => absurd z (nI_ge (b := 16) hj (by decide)), fun _ => ⟨vp_in_nI (by omega) (by decide), fun c => ?_, fun c => ⟨vp_in_nI (by omega) (by decide), ?_⟩⟩⟩
    · rw [if_neg (nlt_le.mpr c)] at hm; exact hm
    · rw [if_pos (nle_lt.mp c)] at hm; exact hm
set_option maxHeartbeats 1000000 in
theorem v_torn11 {p n : Nat} {g : Nat → Int32} {kd : Int32} {σ τ : gT} {L : Nat → Int32} {k : Int32 → gT → Prop} (hp : p < 6) (P : gP10 σ L n τ) (hn : n + 2 ≤ 16) (hg : ∀ q, q < 16 → σ.1 37 0 (16 * p + q) = g q) (l1 : L n = 13) (l2 : L (n + 1) = 10) (h : ∀ τ', gP10 σ L (n + 2) τ' → wX10_markOf (nI p) kd τ' (fun r2 s1 => (¬ kd = 4 → k (gto g - r2) s1) ∧ (kd = 4 → k ((gto g - r2) + 1000) s1))) : wX10_tornSize_11 k (nI p) kd τ := by
  unfold wX10_tornSize_11
  refine v_began P (by omega) l1 (fun τ1 P1 => v_began P1 (by omega) l2 (fun τ2 P2 => ?_))
  refine gloop (N := 16) (fun m j => wX10_tornSize_28 k m (nI p) kd (gs32 (fun q => gshw (g q)) j) (nI j) τ2) ?_ ?_
  · unfold wX10_tornSize_28
    have := h τ2 P2
    simp only [Int32.add_zero]
    exact ⟨fun _ => this, fun z => absurd (by decide) z⟩
  · intro m j hj hm
    have e : gs32 (fun q => gshw (g q)) (j + 1) = gs32 (fun q => gshw (g q)) j + gshw (g j) := rfl
    rw [e] at hm
    unfold gshw at hm ⊢
    unfold wX10_tornSize_28 wX10_tornSize_68
    rw [ix16, nI_1, nI_clamp (show 16 * p + j < 2 ^ 31 by omega), P2.1 37 (by decide) (by decide), hg j hj]
    refine ⟨fun z => absurd z (nI_ge (b := 16) hj (by decide)), fun _ => ⟨vp_in_nI (by omega) (by decide), fun c => ⟨vp_in_nI (by omega) (by decide), ?_⟩, fun c => ?_⟩⟩
    · rw [if_neg c] at hm; exact hm
    · rw [if_pos c] at hm; exact hm
set_option maxHeartbeats 1000000 in
theorem gkd_cases (g : Nat → Int32) : ((gkd g = 1 ∨ gkd g = 2) ∧ ∀ q, q < 16 → ¬ g q = -1) ∨ gkd g = 3 ∨ gkd g = 4 := by
  unfold gkd
  by_cases c1 : 8 ≤ gct (fun q => decide (g q = -1)) 16
  · exact Or.inr (Or.inr (if_pos c1))
  by_cases c2 : 0 < gct (fun q => decide (g q = -1)) 16
  · rw [if_neg c1, if_pos c2]
    exact Or.inr (Or.inl rfl)
  · rw [if_neg c1, if_neg c2]
    refine Or.inl ⟨?_, fun q hq => ?_⟩
    · split
      · exact Or.inr rfl
      · exact Or.inl rfl
    · have := gct_zero.mp (show gct (fun q => decide (g q = -1)) 16 = 0 by omega) q hq
      simpa using this
