/-! PURE: fits, both sides -/
theorem f_m1 (near : Nat) (V : List Int32) : (List.range 625).filter (fmf near V) = (fLr near).filter (fun r => decide (fV (fBr r) = V)) := by
  unfold fLr
  rw [List.filter_filter]
  congr 1
  funext r
  unfold fmf
  rw [Bool.and_comm]
theorem f_m2 (near : Nat) (V : List Int32) : (List.range 625).filter (fun r => fmf near V r && decide (¬ 2 ≤ fF r 4)) = ((fLr near).filter (fun r => decide (¬ 2 ≤ fF r 4))).filter (fun r => decide (fV (fBr r) = V)) := by
  unfold fLr
  rw [List.filter_filter, List.filter_filter]
  congr 1
  funext r
  unfold fmf
  generalize decide (fS r 4 = nI near) = a
  generalize decide (fV (fBr r) = V) = b
  generalize decide (¬ 2 ≤ fF r 4) = c
  cases a <;> cases b <;> cases c <;> rfl
theorem f_lists {near : Nat} (hn : near < 16) (V : List Int32) : ((List.range (gch near)).filter (fcf near V)).map (fun c => fN near c 4) = ((List.range 625).filter (fmf near V)).map nI := by
  have e := f_rows ⟨near, hn⟩
  dsimp only at e
  have e2 := congrArg (fun l => (List.filter (fun p : Int32 × List Int32 => decide (p.2 = V)) l).map Prod.fst) e
  rw [List.filter_map, List.filter_map, List.map_map, List.map_map] at e2
  rw [f_m1]
  exact e2
theorem f_count {near : Nat} (hn : near < 16) (V : List Int32) : gct (fcf near V) (gch near) = gct (fmf near V) 625 := by
  have e := congrArg List.length (f_lists hn V)
  rw [List.length_map, List.length_map] at e
  rw [gct_l, gct_l, e]
theorem f_pick {near : Nat} (hn : near < 16) (V : List Int32) (K : Nat) : gpick (fcf near V) (fun c => fN near c 4) (gch near) 0 K = gpick (fmf near V) nI 625 0 K := by
  rw [gpick_l, gpick_l, ← List.range_eq_range', ← List.range_eq_range', f_lists hn V]
set_option maxHeartbeats 1000000 in
theorem f_first {m : Nat} (hm : m < 15) (V : List Int32) : gct (fmf (m + 1) V) 625 = 4 * gct (fun r => fmf (m + 1) V r && decide (¬ 2 ≤ fF r 4)) 625 := by
  have e := List.Perm.countP_eq (fun v : List Int32 => decide (v = V)) (List.isPerm_iff.mp (f_likes ⟨m, hm⟩))
  dsimp only at e
  rw [List.countP_append, List.countP_append, List.countP_append, List.countP_map, List.countP_eq_length_filter] at e
  have e2 : List.countP (fun v : List Int32 => decide (v = V)) (fLa (m + 1)) = gct (fun r => fmf (m + 1) V r && decide (¬ 2 ≤ fF r 4)) 625 := by
    unfold fLa
    rw [List.countP_map, List.countP_eq_length_filter, gct_l, f_m2]
    rfl
  rw [e2] at e
  rw [gct_l (fmf (m + 1) V), f_m1]
  have e3 : (List.filter ((fun v : List Int32 => decide (v = V)) ∘ fun r => fV (fBr r)) (fLr (m + 1))).length = ((fLr (m + 1)).filter (fun r => decide (fV (fBr r) = V))).length := rfl
  rw [← e3, e]
  omega
theorem f_first0 (V : List Int32) : gct (fmf 0 V) 625 = gct (fun r => fmf 0 V r && decide (¬ 2 ≤ fF r 4)) 625 := by
  rw [gct_l, gct_l, f_m1, f_m2, f_dark]
set_option maxHeartbeats 1000000 in
theorem J_fits (x1 x2 x3 x4 : Int32) {σ : gT} (h : gR σ) : wX9_fits x1 x2 x3 x4 σ (fun r s1 => wX10_fits x1 x2 x3 x4 s1 (fun r2 s2 => r = r2 ∧ gR s2)) := by
  unfold wX9_fits wX10_fits wX9_found wX9_fits_112 wX9_fits_115 wX9_fine
  rcases ixc 16 (by decide) (x := x1) with c | ⟨near, hn, rfl⟩
  · have h1 : ∀ (σ : gT) (k : Int32 → gT → Prop), wX9_below x1 (16 : Int32) σ k ↔ k 0 σ := fun σ k => u_below_out (b := 16) c
    have h2 : ∀ (σ : gT) (k : Int32 → gT → Prop), wX10_in x1.toInt64 (0 : Int64) (15 : Int64) σ k ↔ k 0 σ := fun σ k => v_outN (N := 16) (by decide) (by decide) rfl c
    simp only [h1, h2, if0, if0n, if1, if1n, true_implies, not_true_eq_false, not_false_eq_true, false_implies, and_true, true_and, implies_true]
    exact gR_thrown h
  have h1 : ∀ (σ : gT) (k : Int32 → gT → Prop), wX9_below (nI near) (16 : Int32) σ k ↔ k 1 σ := fun σ k => u_below_in (N := 16) hn (by decide)
  have h2 : ∀ (σ : gT) (k : Int32 → gT → Prop), wX10_in (nI near).toInt64 (0 : Int64) (15 : Int64) σ k ↔ k 1 σ := fun σ k => v_inN (N := 16) hn (by decide) rfl
  simp only [h1, h2, if0, if0n, if1, if1n, true_implies, not_true_eq_false, not_false_eq_true, false_implies, and_true, true_and, implies_true]
  rcases ixc 8 (by decide) (x := x2) with c | ⟨s, hs, rfl⟩
  · simp only [u_isSheet_out c, v_isSheet_out c, if0, if0n, if1, if1n, true_implies, not_true_eq_false, not_false_eq_true, false_implies, and_true, true_and, implies_true]
    exact gR_thrown h
  have es : (nI s).toNatClampNeg = s := nI_clamp (by omega)
  have vs : vp_in (nI s) 8 := vp_in_nI hs (by decide)
  simp only [u_isSheet_in hs, v_isSheet_in hs, if0, if0n, if1, if1n, true_implies, not_true_eq_false, not_false_eq_true, false_implies, and_true, true_and, implies_true, es]
  refine ⟨fun c4 => ⟨vs, ?_⟩, fun c4 => ⟨fun z => absurd z c4, fun _ => gR_thrown h⟩⟩
  obtain ⟨r1, r2⟩ := gRs_at h.1 hs
  rcases r2 with m | ⟨m, m2⟩
  · simp only [u_miss_y m, if0, if0n, if1, if1n, true_implies, not_true_eq_false, not_false_eq_true, false_implies, and_true, true_and, implies_true]
    refine ⟨fun _ => ?_, fun z => absurd c4 z⟩
    rw [v_items_m hs (by simp (disch := decide) only [gsu_f, gsu_s, gsu_e, gsl_f, gsl_g, gsl_s, gsl_e, gsu_g]; rw [r1, m]; decide)]
    exact ⟨fun z => absurd z (by decide), fun _ => ⟨rfl, (by (repeat rw [gRs_su (by decide)]); exact h.1), (by (repeat rw [gRw_su (by decide)]); exact h.2.1), (by (repeat rw [gRp_su (by decide)]); exact h.2.2.1), (by (repeat rw [gRt_su (by decide)]); exact h.2.2.2.1), (by (repeat rw [gRa_su (by decide)]); exact h.2.2.2.2.1), (by (repeat rw [gRf_su (by decide)]); exact h.2.2.2.2.2.1), (by unfold gRz; simp (disch := decide) only [gsu_f, gsu_s, gsu_e])⟩⟩
  simp only [u_miss_n m, if0, if0n, if1, if1n, true_implies, not_true_eq_false, not_false_eq_true, false_implies, and_true, true_and, implies_true]
  obtain ⟨n, hnn, z1, z2⟩ := (h.1 s hs).2.2.1 m
  have e4 : (4 : Int32).toInt = 4 := by decide
  by_cases c : 0 ≤ x3.toInt ∧ x3.toInt + (4 : Int32).toInt ≤ n
  · rw [u_reach_y hnn z1 ⟨c.1, by decide, c.2⟩]
    have c' := c
    obtain ⟨i, hi0, rfl⟩ := nI_of (x := x3) (by rw [fa_lt]; show ¬ x3.toInt < 0; omega)
    rw [nI_toInt hi0, e4] at c'
    simp only [if0, if0n, if1, if1n, true_implies, not_true_eq_false, not_false_eq_true, false_implies, and_true, true_and, implies_true]
    have hi : i + 4 ≤ 64 := by omega
    have q4 := (h.1 s hs).2.2.2
    have hV : ∀ u, u < 4 → σ.1 21 s (i + u) = (fun u => σ.1 21 s (i + u)) u := fun u _ => rfl
    have kR : ∀ τ : gT, gFR σ τ → gR (gsu (gsu (gsu τ 9 0 10 0) 10 0 0 0) 10 0 1 0) := by
      intro τ hτ
      have h : gR τ := gR_fr (fun a a1 a2 a3 a4 a5 => hτ a a1 a5) h
      exact ⟨(by (repeat rw [gRs_su (by decide)]); exact h.1), (by (repeat rw [gRw_su (by decide)]); exact h.2.1), (by (repeat rw [gRp_su (by decide)]); exact h.2.2.1), (by (repeat rw [gRt_su (by decide)]); exact h.2.2.2.1), (by (repeat rw [gRa_su (by decide)]); exact h.2.2.2.2.1), (by (repeat rw [gRf_su (by decide)]); exact h.2.2.2.2.2.1), (by unfold gRz; simp (disch := decide) only [gsu_f, gsu_s, gsu_e])⟩
    have kV : ∀ τ : gT, gFR σ τ → ∀ u, u < 4 → (gsu (gsu (gsu τ 9 0 10 0) 10 0 0 0) 10 0 1 0).1 30 0 (64 * s + i + u) = (fun u => σ.1 21 s (i + u)) u := by
      intro τ hτ u hu
      simp (disch := decide) only [gsu_f, gsu_s, gsu_e, gsl_f, gsl_g, gsl_s, gsl_e, gsu_g]
      rw [hτ 30 (by decide) (by decide), Nat.add_assoc]
      exact q4 _ (by omega)
    have kL : ∀ τ : gT, gFR σ τ → ∀ k, wX10_lookItems (nI s) (nI i) 4 (gsu (gsu τ 9 0 10 0) 10 0 0 0) k ↔ k 0 (gsu (gsu τ 9 0 10 0) 10 0 0 0) := by
      intro τ hτ k
      refine v_items_y hs ?_ hnn ?_ c
      · simp (disch := decide) only [gsu_f, gsu_s, gsu_e, gsl_f, gsl_g, gsl_s, gsl_e, gsu_g]
        rw [hτ 28 (by decide) (by decide), r1]
        exact m2
      · simp (disch := decide) only [gsu_f, gsu_s, gsu_e, gsl_f, gsl_g, gsl_s, gsl_e, gsu_g]
        rw [hτ 29 (by decide) (by decide)]
        exact z2
    refine ⟨fun cn => ⟨fun c2 => ?_, fun c2 => ?_⟩, fun cn => ?_⟩
    · have x4e : x4 = -1 := by
        have e2 : (-2 : Int32).toInt = -2 := by decide
        have e1 : (-1 : Int32).toInt = -1 := by decide
        rw [fa_lt] at cn
        rw [fa_le, e2] at c4
        rw [fa_eq, e2] at c2
        have e0 : (0 : Int32).toInt = 0 := by decide
        rw [fa_eq, e1]
        omega
      subst x4e
      refine u_howN hn hi hV (fun τ hτ => ⟨fun _ => ⟨fun _ => ?_, fun z => absurd c4 z⟩, fun z => absurd rfl z⟩)
      rw [kL τ hτ]
      refine ⟨fun _ => v_fitsN (V := fun u => σ.1 21 s (i + u)) hs hi (kV τ hτ) (fun n hn2 => ?_) ⟨fun z => absurd rfl z, fun _ => ⟨?_, kR τ hτ⟩⟩, fun z => absurd (by decide) z⟩
      · intro z; rw [fa_eq, nI_toInt (by omega)] at z
        have e1 : (-1 : Int32).toInt = -1 := by decide
        omega
      · rw [f_count hn]
    · subst c2
      have hx : ∀ n, n < 1000 → ¬ nI n = -2 := by
        intro n hn2 z; rw [fa_eq, nI_toInt (by omega)] at z
        have e1 : (-2 : Int32).toInt = -2 := by decide
        omega
      have fin : ∀ (v : Int32) (τ : gT), gFR σ τ → v = nI (gct (fun r => fmf near (fV (fun u => σ.1 21 s (i + u))) r && decide (¬ 2 ≤ fF r 4)) 625) → wX10_lookItems (nI s) (nI i) 4 (gsu (gsu τ 9 0 10 0) 10 0 0 0) (fun r20 s19 => (0 ≤ r20 → ∃ n22 : Nat, wX10_fits_65 (fun r2 s2 => v = r2 ∧ gR s2) n22 (nI near) (nI s) (nI i) (-2) 0 0 0 (gsu s19 10 0 1 0)) ∧ (¬ 0 ≤ r20 → v = r20 ∧ gR s19)) := by
        intro v τ hτ hv
        rw [kL τ hτ]
        exact ⟨fun _ => v_fitsN (V := fun u => σ.1 21 s (i + u)) hs hi (kV τ hτ) hx ⟨fun _ => ⟨fun z => absurd rfl z, fun _ => ⟨hv, kR τ hτ⟩⟩, fun z => absurd z (by decide)⟩, fun z => absurd (by decide) z⟩
      refine u_howN hn hi hV (fun τ hτ => ⟨fun z => absurd z (by decide), fun _ => ⟨fun c0 => ⟨fun _ => fin _ τ hτ ?_, fun z => absurd c4 z⟩, fun c0 => ⟨by decide, fun _ => fin _ τ hτ ?_, fun z => absurd c4 z⟩⟩⟩)
      · have : near = 0 := by rw [show (0 : Int32) = nI 0 from rfl, nI_eq (by omega) (by decide)] at c0; exact c0
        subst this
        rw [f_count hn, f_first0]
      · cases near with
        | zero => exact absurd rfl c0
        | succ m =>
          have l := gct_le (fun r => fmf (m + 1) (fV (fun u => σ.1 21 s (i + u))) r && decide (¬ 2 ≤ fF r 4)) 625
          rw [f_count hn, f_first (by omega), show (4 : Int32) = nI 4 from rfl, pk_div (by omega) (by decide) (by decide)]
          congr 1
          omega
    · obtain ⟨K, hK, rfl⟩ := nI_of cn
      refine u_pick hn hi hK hV (fun τ hτ => ⟨fun _ => ?_, fun z => absurd c4 z⟩)
      rw [kL τ hτ]
      refine ⟨fun _ => v_fitsK (V := fun u => σ.1 21 s (i + u)) hs hi hK (kV τ hτ) ⟨?_, kR τ hτ⟩, fun z => absurd (by decide) z⟩
      rw [f_pick hn]
  · rw [u_reach_n hnn z1 (fun z => c ⟨z.1, z.2.2⟩)]
    simp only [if0, if0n, if1, if1n, true_implies, not_true_eq_false, not_false_eq_true, false_implies, and_true, true_and, implies_true]
    refine ⟨fun _ => ?_, fun z => absurd c4 z⟩
    rw [v_items_n hs (by simp (disch := decide) only [gsu_f, gsu_s, gsu_e, gsl_f, gsl_g, gsl_s, gsl_e, gsu_g]; rw [r1]; exact m2) hnn (by simp (disch := decide) only [gsu_f, gsu_s, gsu_e, gsl_f, gsl_g, gsl_s, gsl_e, gsu_g]; exact z2) c]
    exact ⟨fun z => absurd z (by decide), fun _ => ⟨rfl, (by (repeat rw [gRs_su (by decide)]); exact h.1), (by (repeat rw [gRw_su (by decide)]); exact h.2.1), (by (repeat rw [gRp_su (by decide)]); exact h.2.2.1), (by (repeat rw [gRt_su (by decide)]); exact h.2.2.2.1), (by (repeat rw [gRa_su (by decide)]); exact h.2.2.2.2.1), (by (repeat rw [gRf_su (by decide)]); exact h.2.2.2.2.2.1), (by unfold gRz; simp (disch := decide) only [gsu_f, gsu_s, gsu_e])⟩⟩
