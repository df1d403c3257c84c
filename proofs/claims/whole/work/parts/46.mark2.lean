/-! PURE: mark, the counting -/
theorem gSr_stair {T x : Nat} {U : Nat → Nat} {f : Nat} {N : Nat} (h1 : ∀ j, j < f → j < N → x + U j < T) (h2 : ∀ j, f ≤ j → j < N → T ≤ x + U j) : ∀ n, n ≤ N → gSr (fun j => if T ≤ x + U j then 1 else 0) n = n - f
  | 0, _ => by rw [Nat.zero_sub]; rfl
  | n + 1, hn => by
    rw [gSr_s, gSr_stair h1 h2 n (by omega)]
    rcases Nat.lt_or_ge n f with z | z
    · have := h1 n z (by omega)
      rw [if_neg (by omega)]
      omega
    · rw [if_pos (h2 n z (by omega))]
      omega
set_option maxHeartbeats 1000000 in
theorem u_reach39 {T c i : Nat} {S U : Nat → Nat} {σ : gT} {k : Int32 → gT → Prop} {K31 : Int32 → Int32 → Int32 → Int32 → gT → Prop} (hi : i < 256) (hT : T < 2 ^ 30) (hS : σ.1 14 0 i = nI (S i)) (hU : ∀ j, j < 256 → σ.1 15 0 j = nI (U j)) (bS : S i ≤ 2040) (bU : ∀ j, j < 256 → U j ≤ 2040) (sU : ∀ a b, a ≤ b → b < 256 → U a ≤ U b)
    (h : ∀ f, f ≤ 256 → (∀ j, f ≤ j → j < 256 → T ≤ S i + U j) → K31 (nI T) (nI (c + gSr (fun j => if T ≤ S i + U j then 1 else 0) 256)) (nI f) (nI (i + 1)) σ) : ∀ f, f ≤ 256 → (∀ j, f ≤ j → j < 256 → T ≤ S i + U j) → ∃ n, wX2_howManyReach_39 K31 k n (nI T) (nI c) (nI f) (nI i) σ
  | 0, hf, hj => by
    refine ⟨1, ?_⟩
    unfold wX2_howManyReach_39 wX2_howManyReach_71
    refine ⟨fun _ => ?_, fun z => absurd (by decide) z⟩
    have := h 0 hf hj
    rw [gSr_stair (N := 256) (f := 0) (fun j hj => absurd hj (Nat.not_lt_zero j)) hj 256 (Nat.le_refl _)] at this
    rw [nI_1, show (256 : Int32) - nI 0 = nI (256 - 0) by decide, nI_add]
    exact this
  | f + 1, hf, hj => by
    have b2 := bU f (by omega)
    have vi : vp_in (nI i) 256 := vp_in_nI hi (by decide)
    have vf : vp_in (nI f) 256 := vp_in_nI (by omega) (by decide)
    by_cases c1 : S i + U f < T
    · refine ⟨1, ?_⟩
      have := h (f + 1) hf hj
      rw [gSr_stair (N := 256) (f := f + 1) (fun j j1 j2 => by have := sU j f (by omega) (by omega); omega) hj 256 (Nat.le_refl _)] at this
      unfold wX2_howManyReach_39 wX2_howManyReach_71
      rw [nI_pred, nI_1, nI_clamp (show i < 2 ^ 31 by omega), nI_clamp (show f < 2 ^ 31 by omega), hS, hU f (by omega), nI_add, nI_ltI (by omega) (by omega)]
      refine ⟨fun z => absurd z (nI_nle (by omega) (by omega)), fun _ => ⟨vi, vf, fun _ => ?_, fun z => absurd c1 z⟩⟩
      rw [show (256 : Int32) = nI 256 from rfl, pk_sub hf, nI_add]
      exact this
    · obtain ⟨n, key⟩ := u_reach39 (k := k) hi hT hS hU bS bU sU h f (by omega) (fun j j1 j2 => by
        by_cases z : j = f
        · subst z; omega
        · exact hj j (by omega) j2)
      refine ⟨n + 1, ?_⟩
      unfold wX2_howManyReach_39
      rw [nI_pred, nI_clamp (show i < 2 ^ 31 by omega), nI_clamp (show f < 2 ^ 31 by omega), hS, hU f (by omega), nI_add, nI_ltI (by omega) (by omega), pk_m1]
      exact ⟨fun z => absurd z (nI_nle (by omega) (by omega)), fun _ => ⟨vi, vf, fun z => absurd z c1, fun _ => key⟩⟩
set_option maxHeartbeats 1000000 in
theorem u_reach {p T : Nat} {G : Nat → Nat} {σ : gT} {k : Int32 → gT → Prop} (hT : T < 2 ^ 30) (hG : ∀ q, q < 16 → σ.1 17 p q = nI (G q)) (hb : ∀ q, q < 16 → G q ≤ 255)
    (h : ∀ τ : gT, (∀ a, a ≠ 14 → a ≠ 15 → a ≠ 16 → τ.1 a = σ.1 a) → k (nI (gct (fun m => decide (T ≤ gwm G m 16)) 65536)) τ) : wX2_howManyReach p (nI T) σ k := by
  unfold wX2_howManyReach
  refine u_sumUp_f14 (o := 0) (G := G) (by decide) hG hb (fun τ S t1 t2 t3 t4 t5 => ?_)
  have e17 : τ.1 17 = σ.1 17 := t1 17 (by decide) (by decide)
  refine u_sumUp_f15 (o := 8) (G := G) (by decide) (by rw [e17]; exact hG) hb (fun ρ U r1 r2 r3 r4 r5 => ?_)
  have e14 : ρ.1 14 = τ.1 14 := r1 14 (by decide) (by decide)
  have fin : gSr (fun i => gSr (fun j => if T ≤ S i + U j then 1 else 0) 256) 256 = gct (fun m => decide (T ≤ gwm G m 16)) 65536 := by
    have h1 : ∀ x, gSr (fun j => if T ≤ x + U j then 1 else 0) 256 = gSm (fun i => G (8 + i)) 8 (fun y => if T ≤ x + y then 1 else 0) := fun x => r5 (fun y => if T ≤ x + y then 1 else 0)
    rw [gSr_cong (fun i _ => h1 (S i)), t5 (fun x => gSm (fun i => G (8 + i)) 8 (fun y => if T ≤ x + y then 1 else 0))]
    have h2 := gSm_split G 8 8 (fun x => if T ≤ x then 1 else 0)
    have h3 := gSm_row G (fun x => if T ≤ x then 1 else 0) 16
    have e0 : (fun i => G (0 + i)) = G := by funext i; rw [Nat.zero_add]
    rw [e0, ← h2, h3, gct_row]
    refine gSr_cong (fun j _ => ?_)
    by_cases z : T ≤ gwm G j 16
    · rw [if_pos z, if_pos (decide_eq_true z)]
    · rw [if_neg z, if_neg (by rw [decide_eq_true_iff]; exact z)]
  have key := gloop (N := 256) (fun t i => ∀ f, f ≤ 256 → (i < 256 → ∀ j, f ≤ j → j < 256 → T ≤ S i + U j) → wX2_howManyReach_31 k t (nI T) (nI (gSr (fun i => gSr (fun j => if T ≤ S i + U j then 1 else 0) 256) i)) (nI f) (nI i) ρ) (by
    intro f hf _
    unfold wX2_howManyReach_31
    refine ⟨fun _ => ?_, fun z => absurd (by decide) z⟩
    rw [fin]
    exact h ρ (fun a a1 a2 a3 => (r1 a a2 a3).trans (t1 a a1 a3))) (by
    intro t i hi ih f hf hj
    unfold wX2_howManyReach_31
    refine ⟨fun z => absurd z (nI_ge (b := 256) hi (by decide)), fun _ => ?_⟩
    refine u_reach39 (S := S) (U := U) hi hT (by rw [e14]; exact t2 i hi) r2 (t3 i hi) r3 r4 (fun f2 hf2 hj2 => ih f2 hf2 (fun hi2 j j1 j2 => ?_)) f hf (hj hi)
    have := hj2 j j1 j2
    have := t4 i (i + 1) (by omega) hi2
    omega)
  obtain ⟨t, key⟩ := key
  exact ⟨t, key 256 (Nat.le_refl _) (fun _ j j1 j2 => absurd j2 (by omega))⟩
theorem v_mark0 {p m : Nat} {x5 : Int32} {σ : gT} {k : Int32 → gT → Prop} (h : k x5 σ) : ∃ n, wX10_mark_66 k n (nI p) (nI 0) x5 0 0 σ := by
  refine ⟨1, ?_⟩
  unfold wX10_mark_66 wX10_mark_106
  exact ⟨fun z => absurd z (by decide), fun _ => ⟨fun _ => ⟨fun z => absurd rfl z, fun _ => h⟩, fun z => absurd z (by decide)⟩⟩
set_option maxHeartbeats 1000000 in
theorem v_mark1 {p T : Nat} {g : Nat → Int32} {G : Nat → Nat} {σ : gT} {k : Int32 → gT → Prop} (hp : p < 6) (hT : T ≤ gwa G 16) (hg : ∀ q, q < 16 → σ.1 37 0 (16 * p + q) = g q) (hG : ∀ q, q < 16 → gshw (g q) = nI (G q)) (hb : ∀ q, q < 16 → G q ≤ 255) (h : k (nI (gct (fun m => decide (T ≤ gwm G m 16)) 65536)) σ) : ∃ n, wX10_mark_66 k n (nI p) (nI 1) (iI (2 * (T : Int) - (gwa G 16 : Int))) 0 0 σ := by
  refine gloop (N := 65536) (fun t m => wX10_mark_66 k t (nI p) (nI 1) (iI (2 * (T : Int) - (gwa G 16 : Int))) (nI (gct (fun m => decide (T ≤ gwm G m 16)) m)) (nI m) σ) ?_ ?_
  · unfold wX10_mark_66 wX10_mark_106
    exact ⟨fun _ => ⟨fun _ => h, fun z => absurd z (by decide)⟩, fun z => absurd (by decide) z⟩
  · intro t m hm ih
    rw [gct_s] at ih
    unfold wX10_mark_66 wX10_mark_97
    rw [nI_1, nI_1, nI_0r]
    have bd := gwm_bd (m := m) hb 16 (Nat.le_refl _)
    refine ⟨fun z => absurd z (nI_ge (b := 65536) hm (by decide)), fun _ => ⟨fun z => absurd rfl z, fun _ => v_sumOf (G := G) hp (by omega) hg hG ?_⟩⟩
    rw [iI_lt (by omega) (by omega)]
    refine ⟨fun c => ?_, fun c => ?_⟩
    · rw [if_neg (by rw [decide_eq_true_iff]; omega)] at ih
      exact ih
    · rw [if_pos (by rw [decide_eq_true_iff]; omega)] at ih
      exact ih
theorem gG_of {g : Nat → Int32} (hr : ∀ q, q < 16 → g q = -1 ∨ ∃ n, n ≤ 255 ∧ g q = nI n) : ∀ q, q < 16 → (gshw (g q)).toNatClampNeg ≤ 255 ∧ gshw (g q) = nI (gshw (g q)).toNatClampNeg := by
  intro q hq
  unfold gshw
  rcases hr q hq with z | ⟨n, hn, z⟩
  · rw [if_pos z]; decide
  · rw [z, if_neg (by intro y; rw [fa_eq, nI_toInt (by omega)] at y; have e1 : (-1 : Int32).toInt = -1 := by decide
                      omega), nI_clamp (by omega)]
    exact ⟨hn, rfl⟩
set_option maxHeartbeats 1000000 in
theorem J_mark (x1 x2 x3 : Int32) {σ : gT} (h : gR σ) : wX9_mark x1 x2 x3 σ (fun r s1 => wX10_mark x1 x2 x3 s1 (fun r2 s2 => r = r2 ∧ gR s2)) := by
  unfold wX9_mark wX10_mark wX9_found wX9_mark_88 wX9_fine
  rcases ixc 6 (by decide) (x := x1) with c | ⟨p, hp, rfl⟩
  · simp only [u_isPlate_out c, v_isPlate_out c, if0, if0n, if1, if1n, true_implies, not_true_eq_false, not_false_eq_true, false_implies, and_true, true_and, implies_true]
    exact gR_thrown h
  have ep : (nI p).toNatClampNeg = p := nI_clamp (by omega)
  have vp : vp_in (nI p) 6 := vp_in_nI hp (by decide)
  simp only [u_isPlate_in hp, v_isPlate_in hp, if0, if0n, if1, if1n, true_implies, not_true_eq_false, not_false_eq_true, false_implies, and_true, true_and, implies_true, ep]
  rcases ixc 65536 (by decide) (x := x2) with c | ⟨m, hm, rfl⟩
  · have h1 : ∀ (σ : gT) (k : Int32 → gT → Prop), wX9_below x2 (65536 : Int32) σ k ↔ k 0 σ := fun σ k => u_below_out (b := 65536) c
    have h2 : ∀ (σ : gT) (k : Int32 → gT → Prop), wX10_in x2.toInt64 (0 : Int64) (65535 : Int64) σ k ↔ k 0 σ := fun σ k => v_outN (N := 65536) (by decide) (by decide) rfl c
    simp only [h1, h2, if0, if0n, if1, if1n, true_implies, not_true_eq_false, not_false_eq_true, false_implies, and_true, true_and, implies_true]
    exact gR_thrown h
  have h1 : ∀ (σ : gT) (k : Int32 → gT → Prop), wX9_below (nI m) (65536 : Int32) σ k ↔ k 1 σ := fun σ k => u_below_in (N := 65536) hm (by decide)
  have h2 : ∀ (σ : gT) (k : Int32 → gT → Prop), wX10_in (nI m).toInt64 (0 : Int64) (65535 : Int64) σ k ↔ k 1 σ := fun σ k => v_inN (N := 65536) hm (by decide) rfl
  simp only [h1, h2, if0, if0n, if1, if1n, true_implies, not_true_eq_false, not_false_eq_true, false_implies, and_true, true_and, implies_true]
  rcases ixc 2 (by decide) (x := x3) with c | ⟨w, hw, rfl⟩
  · have h3 : ∀ (σ : gT) (k : Int32 → gT → Prop), wX9_below x3 (2 : Int32) σ k ↔ k 0 σ := fun σ k => u_below_out (b := 2) c
    have h4 : ∀ (σ : gT) (k : Int32 → gT → Prop), wX10_in x3.toInt64 (0 : Int64) (1 : Int64) σ k ↔ k 0 σ := fun σ k => v_outN (N := 2) (by decide) (by decide) rfl c
    simp only [h3, h4, if0, if0n, if1, if1n, true_implies, not_true_eq_false, not_false_eq_true, false_implies, and_true, true_and, implies_true]
    exact gR_thrown h
  have h3 : ∀ (σ : gT) (k : Int32 → gT → Prop), wX9_below (nI w) (2 : Int32) σ k ↔ k 1 σ := fun σ k => u_below_in (N := 2) hw (by decide)
  have h4 : ∀ (σ : gT) (k : Int32 → gT → Prop), wX10_in (nI w).toInt64 (0 : Int64) (1 : Int64) σ k ↔ k 1 σ := fun σ k => v_inN (N := 2) hw (by decide) rfl
  simp only [h3, h4, if0, if0n, if1, if1n, true_implies, not_true_eq_false, not_false_eq_true, false_implies, and_true, true_and, implies_true]
  obtain ⟨p1, p2, p3, p6⟩ := h.2.2.1 p hp
  refine ⟨vp, ?_⟩
  by_cases ms : σ.1 3 p 2 = 0
  · simp only [u_pmiss_y ms, if0, if0n, if1, if1n, true_implies, not_true_eq_false, not_false_eq_true, false_implies, and_true, true_and, implies_true]
    rw [v_look_y hp (by simp (disch := decide) only [gsu_f, gsu_s, gsu_e, gsl_f, gsl_g, gsl_s, gsl_e, gsu_g]; rw [p1, ms])]
    exact ⟨fun z => absurd z (by decide), fun _ => ⟨rfl, (by (repeat rw [gRs_su (by decide)]); exact h.1), (by (repeat rw [gRw_su (by decide)]); exact h.2.1), (by (repeat rw [gRp_su (by decide)]); exact h.2.2.1), (by (repeat rw [gRt_su (by decide)]); exact h.2.2.2.1), (by (repeat rw [gRa_su (by decide)]); exact h.2.2.2.2.1), (by (repeat rw [gRf_su (by decide)]); exact h.2.2.2.2.2.1), (by unfold gRz; simp (disch := decide) only [gsu_f, gsu_s, gsu_e])⟩⟩
  simp only [u_pmiss_n ms, if0, if0n, if1, if1n, true_implies, not_true_eq_false, not_false_eq_true, false_implies, and_true, true_and, implies_true]
  have hr : ∀ q, q < 16 → gpg σ p q = -1 ∨ ∃ n, n ≤ 255 ∧ gpg σ p q = nI n := fun q hq => (p3 q hq).2
  have hGG := gG_of (g := gpg σ p) hr
  generalize eG : (fun q => (gshw (gpg σ p q)).toNatClampNeg) = G
  have hG : ∀ q, q < 16 → gshw (gpg σ p q) = nI (G q) := fun q hq => by rw [← eG]; exact (hGG q hq).2
  have hG17 : ∀ q, q < 16 → σ.1 17 p q = nI (G q) := fun q hq => (p6.2 q hq).trans (hG q hq)
  have hb : ∀ q, q < 16 → G q ≤ 255 := fun q hq => by rw [← eG]; exact (hGG q hq).1
  have bd := gwm_bd (m := m) hb 16 (Nat.le_refl _)
  refine u_tw p6.2 ?_
  rw [gtw_n hG (by omega)]
  have kR : ∀ τ : gT, (∀ a, a ≠ 14 → a ≠ 15 → a ≠ 16 → τ.1 a = σ.1 a) → gR (gsu (gsu (gsu τ 9 0 10 0) 10 0 0 0) 10 0 1 0) := by
    intro τ hτ
    have h : gR τ := gR_fr (fun a a1 a2 a3 a4 a5 => hτ a a2 a3 a4) h
    exact ⟨(by (repeat rw [gRs_su (by decide)]); exact h.1), (by (repeat rw [gRw_su (by decide)]); exact h.2.1), (by (repeat rw [gRp_su (by decide)]); exact h.2.2.1), (by (repeat rw [gRt_su (by decide)]); exact h.2.2.2.1), (by (repeat rw [gRa_su (by decide)]); exact h.2.2.2.2.1), (by (repeat rw [gRf_su (by decide)]); exact h.2.2.2.2.2.1), (by unfold gRz; simp (disch := decide) only [gsu_f, gsu_s, gsu_e])⟩
  have kG : ∀ τ : gT, (∀ a, a ≠ 14 → a ≠ 15 → a ≠ 16 → τ.1 a = σ.1 a) → ∀ q, q < 16 → (gsu (gsu (gsu τ 9 0 10 0) 10 0 0 0) 10 0 1 0).1 37 0 (16 * p + q) = gpg σ p q := by
    intro τ hτ q hq
    simp (disch := decide) only [gsu_f, gsu_s, gsu_e, gsl_f, gsl_g, gsl_s, gsl_e, gsu_g]
    rw [hτ 37 (by decide) (by decide) (by decide)]
    exact (p3 q hq).1
  have kS : ∀ τ : gT, (∀ a, a ≠ 14 → a ≠ 15 → a ≠ 16 → τ.1 a = σ.1 a) → ¬ (gsu (gsu τ 9 0 10 0) 10 0 0 0).1 36 0 p = 0 := by
    intro τ hτ
    simp (disch := decide) only [gsu_f, gsu_s, gsu_e, gsl_f, gsl_g, gsl_s, gsl_e, gsu_g]
    rw [hτ 36 (by decide) (by decide) (by decide), p1]
    exact ms
  rcases (show w = 0 ∨ w = 1 by omega) with rfl | rfl
  · refine ⟨fun z => absurd rfl z, fun _ => u_total p6.2 ?_⟩
    rw [gto_n hG, v_look_n hp (kS σ (fun _ _ _ _ => rfl))]
    refine ⟨fun _ => v_sumOf (G := G) hp (by omega) (kG σ (fun _ _ _ _ => rfl)) hG (v_mark0 (m := m) ⟨?_, kR σ (fun _ _ _ _ => rfl)⟩), fun z => absurd (by decide) z⟩
    rw [iI_sub, iI_mul, iI_nat, iI_nat]
    rfl
  · refine ⟨fun _ => u_reach (G := G) (by omega) hG17 hb (fun τ hτ => ?_), fun z => absurd z (by decide)⟩
    rw [v_look_n hp (kS τ hτ)]
    exact ⟨fun _ => v_sumOf (G := G) hp (by omega) (kG τ hτ) hG (v_mark1 hp bd.1 (kG τ hτ) hG hb ⟨rfl, kR τ hτ⟩), fun z => absurd (by decide) z⟩
