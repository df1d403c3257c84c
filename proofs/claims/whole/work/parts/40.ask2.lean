/-! PURE: ask, class and model -/
theorem gP9_17 {σ τ : gT} {L : Nat → Int32} {n : Nat} (P : gP9 σ L n τ) : τ.1 17 = σ.1 17 ∧ τ.1 3 = σ.1 3 := ⟨P.1 17 (by decide) (by decide), P.1 3 (by decide) (by decide)⟩
theorem u_sizeLent {p n : Nat} {σ τ : gT} {L : Nat → Int32} {k : Int32 → gT → Prop} (hs : ∀ q, q < 16 → σ.1 17 p q = gshw (gpg σ p q)) (P : gP9 σ L n τ) (hn : n < 16) (l : L n = 10) (h : ∀ τ', gP9 σ L (n + 1) τ' → k (gto (gpg σ p)) τ') : wX0_sizeLent p τ k := by
  unfold wX0_sizeLent
  refine u_begin P hn l (fun τ1 P1 => u_total (g := gpg σ p) (fun q hq => ?_) (h τ1 P1))
  rw [(gP9_17 P1).1]; exact hs q hq
theorem u_sizeClear {p n : Nat} {σ τ : gT} {L : Nat → Int32} {k : Int32 → gT → Prop} (hs : ∀ q, q < 16 → σ.1 17 p q = gshw (gpg σ p q)) (P : gP9 σ L n τ) (hn : n + 1 < 16) (l : L n = 11) (l2 : L (n + 1) = 10) (h : ∀ τ', gP9 σ L (n + 2) τ' → k (gto (gpg σ p) + σ.1 3 p 2) τ') : wX0_sizeOfClear p τ k := by
  unfold wX0_sizeOfClear
  refine u_begin P (by omega) l (fun τ1 P1 => u_sizeLent hs P1 hn l2 (fun τ2 P2 => ?_))
  rw [(gP9_17 P2).2]; exact h τ2 P2
theorem u_sizeFully {p n : Nat} {σ τ : gT} {L : Nat → Int32} {k : Int32 → gT → Prop} (hs : ∀ q, q < 16 → σ.1 17 p q = gshw (gpg σ p q)) (P : gP9 σ L n τ) (hn : n + 2 < 16) (l : L n = 12) (l2 : L (n + 1) = 11) (l3 : L (n + 2) = 10) (h : ∀ τ', gP9 σ L (n + 3) τ' → k (2 * (gto (gpg σ p) + σ.1 3 p 2)) τ') : wX0_sizeOfFully p τ k := by
  unfold wX0_sizeOfFully
  exact u_begin P (by omega) l (fun τ1 P1 => u_sizeClear hs P1 (by omega) l2 l3 (fun τ2 P2 => h τ2 P2))
theorem u_markClear {p n : Nat} {σ τ : gT} {L : Nat → Int32} {k : Int32 → gT → Prop} (hs : ∀ q, q < 16 → σ.1 17 p q = gshw (gpg σ p q)) (P : gP9 σ L n τ) (hn : n + 1 < 16) (l : L n = 21) (l2 : L (n + 1) = 20) (h : ∀ τ', gP9 σ L (n + 2) τ' → k (gmx (fun q => gshw (gpg σ p q)) 16 + 1000) τ') : wX0_markOfClear p τ k := by
  unfold wX0_markOfClear wX0_markLent
  refine u_begin P (by omega) l (fun τ1 P1 => u_begin P1 hn l2 (fun τ2 P2 => u_great (g := gpg σ p) (fun q hq => ?_) (h τ2 P2)))
  rw [(gP9_17 P2).1]; exact hs q hq
theorem u_markTorn {p n : Nat} {σ τ : gT} {L : Nat → Int32} {k : Int32 → gT → Prop} (hL : gLs σ p) (P : gP9 σ L n τ) (hn : n < 16) (l : L n = 23) (h : ∀ τ', gP9 σ L (n + 1) τ' → k (nI (gct (fun q => decide (gpg σ p q = -1)) 16)) τ') : wX0_markOfTorn p τ k := by
  unfold wX0_markOfTorn
  refine u_begin P hn l (fun τ1 P1 => u_lostOnes ((gLs_eq (gP9_17 P1).2 (gP9_17 P1).1).mpr hL) ?_)
  rw [gpg_eq (gP9_17 P1).2 (gP9_17 P1).1]; exact h τ1 P1
theorem u_kT {p n : Nat} {σ τ : gT} {L : Nat → Int32} {k : Int32 → gT → Prop} (hL : gLs σ p) (P : gP9 σ L n τ) (h : k (gkd (gpg σ p)) τ) : wX3_kindTold p τ k := by
  refine u_kindTold ((gLs_eq (gP9_17 P).2 (gP9_17 P).1).mpr hL) ?_
  rw [gpg_eq (gP9_17 P).2 (gP9_17 P).1]; exact h
def gL (l : List Int32) : Nat → Int32 := fun q => l.getD q 0
set_option maxHeartbeats 1000000 in
theorem J_ask (x1 x2 : Int32) {σ : gT} (h : gR σ) : wX9_ask x1 x2 σ (fun r s1 => wX10_ask x1 x2 s1 (fun r2 s2 => r = r2 ∧ gR s2)) := by
  unfold wX9_ask wX9_ask_71 wX9_fine wX9_found wX0_forget
  rcases ixc 6 (by decide) (x := x1) with c | ⟨p, hp, rfl⟩
  · unfold wX10_ask
    simp only [u_isPlate_out c, v_isPlate_out c, if0, if0n, if1, if1n, true_implies, not_true_eq_false, not_false_eq_true, false_implies, and_true, true_and, implies_true]
    exact gR_thrown h
  have ep : (nI p).toNatClampNeg = p := nI_clamp (by omega)
  have vp : vp_in (nI p) 6 := vp_in_nI hp (by decide)
  simp only [u_isPlate_in hp, if0, if0n, if1, if1n, true_implies, not_true_eq_false, not_false_eq_true, false_implies, and_true, true_and, implies_true, ep]
  rcases ixc 2 (by decide) (x := x2) with c | ⟨t, ht, rfl⟩
  · have h2 : ∀ (σ : gT) (k : Int32 → gT → Prop), wX10_in x2.toInt64 (0 : Int64) (1 : Int64) σ k ↔ k 0 σ := fun σ k => v_outN (N := 2) (by decide) (by decide) rfl c
    unfold wX10_ask
    simp only [v_isPlate_in hp, u_below_out (b := 2) c, h2, if0, if0n, if1, if1n, true_implies, not_true_eq_false, not_false_eq_true, false_implies, and_true, true_and, implies_true]
    exact gR_thrown h
  have h1 : ∀ (σ : gT) (k : Int32 → gT → Prop), wX9_below (nI t) (2 : Int32) σ k ↔ k 1 σ := fun σ k => u_below_in (N := 2) ht (by decide)
  have h2 : ∀ (σ : gT) (k : Int32 → gT → Prop), wX10_in (nI t).toInt64 (0 : Int64) (1 : Int64) σ k ↔ k 1 σ := fun σ k => v_inN (N := 2) ht (by decide) rfl
  simp only [h1, if0, if0n, if1, if1n, true_implies, not_true_eq_false, not_false_eq_true, false_implies, and_true, true_and, implies_true]
  refine ⟨vp, ?_⟩
  obtain ⟨p1, p2, p3, p6⟩ := h.2.2.1 p hp
  by_cases m : σ.1 3 p 2 = 0
  · have m' : (gsu σ 0 0 1 0).1 3 p 2 = 0 := m
    unfold wX10_ask
    simp only [u_pmiss_y m', v_isPlate_in hp, h2, if0, if0n, if1, if1n, true_implies, not_true_eq_false, not_false_eq_true, false_implies, and_true, true_and, implies_true]
    rw [v_look_y hp (by simp (disch := decide) only [gsu_f, gsu_s, gsu_e, gsl_f, gsl_g, gsl_s, gsl_e, gsu_g]; rw [p1, m])]
    refine ⟨fun z => absurd z (by decide), fun _ => ⟨rfl, (by (repeat rw [gRs_su (by decide)]); exact h.1), (by (repeat rw [gRw_su (by decide)]); exact h.2.1), (by (repeat rw [gRp_su (by decide)]); exact h.2.2.1), (by (repeat rw [gRt_su (by decide)]); exact h.2.2.2.1), ?_, (by (repeat rw [gRf_su (by decide)]); exact h.2.2.2.2.2.1), (by unfold gRz; simp (disch := decide) only [gsu_f, gsu_s, gsu_e])⟩⟩
    exact ⟨0, by decide, rfl, rfl, fun q hq => absurd hq (Nat.not_lt_zero q)⟩
  have m' : ¬ (gsu σ 0 0 1 0).1 3 p 2 = 0 := m
  simp only [u_pmiss_n m', if0, if0n, if1, if1n, true_implies, not_true_eq_false, not_false_eq_true, false_implies, and_true, true_and, implies_true]
  have hg : ∀ q, q < 16 → gpg σ p q = -1 ∨ ∃ n, n ≤ 255 ∧ gpg σ p q = nI n := fun q hq => (p3 q hq).2
  have P0 : ∀ L, gP9 σ L 0 (gsu σ 0 0 1 0) := fun L => ⟨fun a h1 h2 => by funext b c; exact gsu_f h1, gsu_e, fun q hq => absurd hq (Nat.not_lt_zero q)⟩
  have M : ∀ (τ : gT) (r : Int32) (L : Nat → Int32) (n : Nat), gP9 σ L n τ → (∀ σ' : gT, gP10 σ' L 0 σ' → (∀ q, q < 16 → σ'.1 37 0 (16 * p + q) = gpg σ p q) → σ'.1 36 0 p = σ.1 3 p 2 → (∀ ρ, gP10 σ' L n ρ → gR ρ) → (¬ nI t = 1 → wX10_isOf (gkd (gpg σ p)) 3 σ' (fun r14 s13 => (r14 = 0 → wX10_clearSize (nI p) (gkd (gpg σ p)) s13 (fun r17 s16 => r = r17 ∧ gR s16)) ∧ (¬ r14 = 0 → wX10_tornSize (nI p) (gkd (gpg σ p)) s13 (fun r17 s16 => r = r17 ∧ gR s16)))) ∧ (nI t = 1 → wX10_markOf (nI p) (gkd (gpg σ p)) σ' (fun r17 s16 => r = r17 ∧ gR s16))) → n ≤ 16 → wX10_ask (nI p) (nI t) (gsu τ 9 0 10 0) (fun r2 s2 => r = r2 ∧ gR s2) := by
    intro τ r L n P core hn
    unfold wX10_ask
    simp only [v_isPlate_in hp, h2, if0, if0n, if1, if1n, true_implies, not_true_eq_false, not_false_eq_true, false_implies, and_true, true_and, implies_true]
    rw [v_look_n hp (by simp (disch := decide) only [gsu_f, gsu_s, gsu_e, gsl_f, gsl_g, gsl_s, gsl_e, gsu_g]; rw [P.1 36 (by decide) (by decide), p1]; exact m)]
    have g1 : ∀ q, q < 16 → (gsu (gsu (gsu (gsu τ 9 0 10 0) 10 0 0 0) 10 0 24 0) 10 0 1 0).1 37 0 (16 * p + q) = gpg σ p q := fun q hq => by
      simp (disch := decide) only [gsu_f, gsu_s, gsu_e, gsl_f, gsl_g, gsl_s, gsl_e, gsu_g]
      rw [P.1 37 (by decide) (by decide)]
      exact (p3 q hq).1
    refine ⟨fun _ => v_kindOf (g := gpg σ p) hp g1 hg (core _ ⟨fun a h1 h2 => rfl, fun c h1 => rfl, ?_, fun q hq => absurd hq (Nat.not_lt_zero q)⟩ g1 ?_ (fun ρ hρ => gR_ask h hn P hρ)), fun z => absurd (by decide) z⟩
    · simp (disch := decide) only [gsu_f, gsu_s, gsu_e, gsl_f, gsl_g, gsl_s, gsl_e, gsu_g]
      rfl
    · simp (disch := decide) only [gsu_f, gsu_s, gsu_e, gsl_f, gsl_g, gsl_s, gsl_e, gsu_g]
      rw [P.1 36 (by decide) (by decide)]
      exact p1
  have n3 : ∀ o : Int32, o = 1 ∨ o = 2 → gof o 3 = 0 := by intro o ho; rcases ho with z | z <;> subst z <;> decide
  have y3 : ∀ o : Int32, o = 3 ∨ o = 4 → gof o 3 = 1 := by intro o ho; rcases ho with z | z <;> subst z <;> decide
  rcases (show t = 0 ∨ t = 1 by omega) with z | z <;> subst z
  · -- size
    refine ⟨fun z => absurd rfl z, fun _ => ?_⟩
    unfold wX0_sizeAsked_L2
    refine ⟨fun _ => ?_, fun z => absurd (by decide) z⟩
    rcases gkd_cases (gpg σ p) with ⟨hk | hk, hno⟩ | hk | hk
    · have es : gs32 (gpg σ p) 16 = gto (gpg σ p) := gs32_cong (fun j hj => by unfold gshw; rw [if_neg (hno j hj)])
      refine u_kT p6 (P0 (gL [11, 10])) ?_
      rw [hk]
      refine ⟨fun z => absurd z (by decide), fun _ => u_sizeClear p6.2 (P0 (gL [11, 10])) (by decide) rfl rfl (fun τ P => M τ _ (gL [11, 10]) 2 P (fun σ' Q q1 q2 fin => ⟨fun _ => v_isOf ?_, fun z => absurd z (by decide)⟩) (by decide)), fun z => absurd z (by decide), fun z => absurd z (by decide), fun z => absurd z (by decide), trivial⟩
      rw [hk, n3 1 (Or.inl rfl)]
      refine ⟨fun _ => ?_, fun z => absurd rfl z⟩
      unfold wX10_clearSize
      refine ⟨fun _ => v_clear11 hp Q (by decide) q1 q2 rfl rfl (fun τ' Q' => ⟨?_, fin τ' Q'⟩), fun z => absurd z (by decide)⟩
      rw [if_neg (by decide), es, Int32.add_comm]
    · have es : gs32 (gpg σ p) 16 = gto (gpg σ p) := gs32_cong (fun j hj => by unfold gshw; rw [if_neg (hno j hj)])
      refine u_kT p6 (P0 (gL [12, 11, 10])) ?_
      rw [hk]
      refine ⟨fun z => absurd z (by decide), fun z => absurd z (by decide), fun _ => u_sizeFully p6.2 (P0 (gL [12, 11, 10])) (by decide) rfl rfl rfl (fun τ P => M τ _ (gL [12, 11, 10]) 3 P (fun σ' Q q1 q2 fin => ⟨fun _ => v_isOf ?_, fun z => absurd z (by decide)⟩) (by decide)), fun z => absurd z (by decide), fun z => absurd z (by decide), trivial⟩
      rw [hk, n3 2 (Or.inr rfl)]
      refine ⟨fun _ => ?_, fun z => absurd rfl z⟩
      unfold wX10_clearSize
      refine ⟨fun z => absurd rfl z, fun _ => v_began Q (by decide) rfl (fun τ1 Q1 => v_clear11 hp Q1 (by decide) q1 q2 rfl rfl (fun τ' Q' => ⟨?_, fin τ' Q'⟩))⟩
      rw [if_pos rfl, es, Int32.add_comm (σ.1 3 p 2)]
    · refine u_kT p6 (P0 (gL [13, 10, 23])) ?_
      rw [hk]
      refine ⟨fun z => absurd z (by decide), fun z => absurd z (by decide), fun z => absurd z (by decide), fun _ => ?_, fun z => absurd z (by decide), trivial⟩
      unfold wX0_sizeOfTorn_L2 wX0_markAsked_L1 wX0_markAsked_L1_57
      refine u_begin (P0 (gL [13, 10, 23])) (by decide) rfl (fun τ1 P1 => u_sizeLent p6.2 P1 (by decide) rfl (fun τ2 P2 => ⟨fun _ => u_kT p6 P2 ?_, fun z => absurd (by decide) z⟩))
      rw [hk]
      refine ⟨fun z => absurd z (by decide), fun z => absurd z (by decide), fun z => absurd z (by decide), fun _ => u_markTorn p6 P2 (by decide) rfl (fun τ P => M τ _ (gL [13, 10, 23]) 3 P (fun σ' Q q1 q2 fin => ⟨fun _ => v_isOf ?_, fun z => absurd z (by decide)⟩) (by decide)), fun z => absurd z (by decide), trivial⟩
      rw [hk, y3 3 (Or.inl rfl)]
      refine ⟨fun z => absurd z (by decide), fun _ => ?_⟩
      unfold wX10_tornSize
      refine ⟨fun _ => v_torn11 hp Q (by decide) q1 rfl rfl (fun τ' Q' => ?_), fun z => absurd z (by decide)⟩
      unfold wX10_markOf
      refine v_isOf ?_
      rw [y3 3 (Or.inl rfl)]
      refine ⟨fun z => absurd z (by decide), fun _ => v_began Q' (by decide) rfl (fun τ3 Q3 => v_lostOn (g := gpg σ p) hp (fun q hq => by rw [Q3.1 37 (by decide) (by decide)]; exact q1 q hq) ⟨fun _ => ⟨rfl, fin _ Q3⟩, fun z => absurd z (by decide)⟩)⟩
    · refine u_kT p6 (P0 (gL [14, 13, 10, 23])) ?_
      rw [hk]
      refine ⟨fun z => absurd z (by decide), fun z => absurd z (by decide), fun z => absurd z (by decide), fun z => absurd z (by decide), fun _ => ?_, trivial⟩
      unfold wX0_sizeOfBlind_L2 wX0_sizeOfTorn_L2 wX0_markAsked_L1 wX0_markAsked_L1_57
      refine u_begin (P0 (gL [14, 13, 10, 23])) (by decide) rfl (fun τ0 P1 => u_begin P1 (by decide) rfl (fun τ1 P1 => u_sizeLent p6.2 P1 (by decide) rfl (fun τ2 P2 => ⟨fun _ => u_kT p6 P2 ?_, fun z => absurd (by decide) z⟩)))
      rw [hk]
      refine ⟨fun z => absurd z (by decide), fun z => absurd z (by decide), fun z => absurd z (by decide), fun z => absurd z (by decide), fun _ => u_markTorn p6 P2 (by decide) rfl (fun τ P => M τ _ (gL [14, 13, 10, 23]) 4 P (fun σ' Q q1 q2 fin => ⟨fun _ => v_isOf ?_, fun z => absurd z (by decide)⟩) (by decide)), trivial⟩
      rw [hk, y3 4 (Or.inr rfl)]
      refine ⟨fun z => absurd z (by decide), fun _ => ?_⟩
      unfold wX10_tornSize
      refine ⟨fun z => absurd rfl z, fun _ => v_began Q (by decide) rfl (fun τ0 Q0 => v_torn11 hp Q0 (by decide) q1 rfl rfl (fun τ' Q' => ?_))⟩
      unfold wX10_markOf
      refine v_isOf ?_
      rw [y3 4 (Or.inr rfl)]
      refine ⟨fun z => absurd z (by decide), fun _ => v_began Q' (by decide) rfl (fun τ3 Q3 => v_lostOn (g := gpg σ p) hp (fun q hq => by rw [Q3.1 37 (by decide) (by decide)]; exact q1 q hq) ⟨fun z => absurd rfl z, fun _ => ⟨rfl, fin _ Q3⟩⟩)⟩
  · -- mark
    refine ⟨fun _ => ?_, fun z => absurd z (by decide)⟩
    unfold wX0_markAsked_L2 wX0_markAsked_L2_57
    refine ⟨fun _ => ?_, fun z => absurd (by decide) z⟩
    rcases gkd_cases (gpg σ p) with ⟨hk | hk, hno⟩ | hk | hk
    · have em : gmx (fun q => gshw (gpg σ p q)) 16 = gmx (gpg σ p) 16 := gmx_cong (fun j hj => by unfold gshw; rw [if_neg (hno j hj)])
      refine u_kT p6 (P0 (gL [21, 20])) ?_
      rw [hk]
      refine ⟨fun z => absurd z (by decide), fun _ => u_markClear p6.2 (P0 (gL [21, 20])) (by decide) rfl rfl (fun τ P => M τ _ (gL [21, 20]) 2 P (fun σ' Q q1 q2 fin => ⟨fun z => absurd rfl z, fun _ => ?_⟩) (by decide)), fun z => absurd z (by decide), fun z => absurd z (by decide), fun z => absurd z (by decide), trivial⟩
      rw [hk]
      unfold wX10_markOf
      refine v_isOf ?_
      rw [n3 1 (Or.inl rfl)]
      refine ⟨fun _ => ⟨fun _ => v_mark31 hp Q (by decide) q1 rfl rfl (fun _ τ' Q' => ⟨?_, fin τ' Q'⟩) (fun z => absurd z (by decide)), fun z => absurd z (by decide)⟩, fun z => absurd rfl z⟩
      rw [em]
    · have em : gmx (fun q => gshw (gpg σ p q)) 16 = gmx (gpg σ p) 16 := gmx_cong (fun j hj => by unfold gshw; rw [if_neg (hno j hj)])
      have es : gs32 (gpg σ p) 16 = gto (gpg σ p) := gs32_cong (fun j hj => by unfold gshw; rw [if_neg (hno j hj)])
      refine u_kT p6 (P0 (gL [22, 21, 20, 12, 11, 10])) ?_
      rw [hk]
      refine ⟨fun z => absurd z (by decide), fun z => absurd z (by decide), fun _ => ?_, fun z => absurd z (by decide), fun z => absurd z (by decide), trivial⟩
      unfold wX0_markOfFully_L2 wX0_sizeAsked_L1
      refine u_begin (P0 (gL [22, 21, 20, 12, 11, 10])) (by decide) rfl (fun τ1 P1 => u_markClear p6.2 P1 (by decide) rfl rfl (fun τ2 P2 => ⟨fun _ => u_kT p6 P2 ?_, fun z => absurd (by decide) z⟩))
      rw [hk]
      refine ⟨fun z => absurd z (by decide), fun z => absurd z (by decide), fun _ => u_sizeFully p6.2 P2 (by decide) rfl rfl rfl (fun τ P => M τ _ (gL [22, 21, 20, 12, 11, 10]) 6 P (fun σ' Q q1 q2 fin => ⟨fun z => absurd rfl z, fun _ => ?_⟩) (by decide)), fun z => absurd z (by decide), fun z => absurd z (by decide), trivial⟩
      rw [hk]
      unfold wX10_markOf
      refine v_isOf ?_
      rw [n3 2 (Or.inr rfl)]
      refine ⟨fun _ => ⟨fun z => absurd rfl z, fun _ => v_began Q (by decide) rfl (fun τ0 Q0 => v_mark31 hp Q0 (by decide) q1 rfl rfl (fun z => absurd rfl z) (fun _ τ' Q' => ?_))⟩, fun z => absurd rfl z⟩
      unfold wX10_clearSize
      refine ⟨fun z => absurd rfl z, fun _ => v_began Q' (by decide) rfl (fun τ1 Q1 => v_clear11 hp Q1 (by decide) q1 q2 rfl rfl (fun τ' Q' => ⟨?_, fin τ' Q'⟩))⟩
      rw [if_pos rfl, es, em, Int32.add_comm (σ.1 3 p 2)]
    · refine u_kT p6 (P0 (gL [23])) ?_
      rw [hk]
      refine ⟨fun z => absurd z (by decide), fun z => absurd z (by decide), fun z => absurd z (by decide), fun _ => u_markTorn p6 (P0 (gL [23])) (by decide) rfl (fun τ P => M τ _ (gL [23]) 1 P (fun σ' Q q1 q2 fin => ⟨fun z => absurd rfl z, fun _ => ?_⟩) (by decide)), fun z => absurd z (by decide), trivial⟩
      rw [hk]
      unfold wX10_markOf
      refine v_isOf ?_
      rw [y3 3 (Or.inl rfl)]
      exact ⟨fun z => absurd z (by decide), fun _ => v_began Q (by decide) rfl (fun τ3 Q3 => v_lostOn (g := gpg σ p) hp (fun q hq => by rw [Q3.1 37 (by decide) (by decide)]; exact q1 q hq) ⟨rfl, fin _ Q3⟩)⟩
    · refine u_kT p6 (P0 (gL [23])) ?_
      rw [hk]
      refine ⟨fun z => absurd z (by decide), fun z => absurd z (by decide), fun z => absurd z (by decide), fun z => absurd z (by decide), fun _ => u_markTorn p6 (P0 (gL [23])) (by decide) rfl (fun τ P => M τ _ (gL [23]) 1 P (fun σ' Q q1 q2 fin => ⟨fun z => absurd rfl z, fun _ => ?_⟩) (by decide)), trivial⟩
      rw [hk]
      unfold wX10_markOf
      refine v_isOf ?_
      rw [y3 4 (Or.inr rfl)]
      exact ⟨fun z => absurd z (by decide), fun _ => v_began Q (by decide) rfl (fun τ3 Q3 => v_lostOn (g := gpg σ p) hp (fun q hq => by rw [Q3.1 37 (by decide) (by decide)]; exact q1 q hq) ⟨rfl, fin _ Q3⟩)⟩
