/-! PURE: an act done by the model -/
set_option maxHeartbeats 1000000 in
theorem v_asItIs {w : Nat} {re im : Nat → Int32} {σ : gT} {k : gT → Prop} (hw : w < 8) (hr : ∀ q, q < 16 → σ.1 31 0 (16 * w + q) = re q ∧ σ.1 32 0 (16 * w + q) = im q) (h : ∀ ρ, gD 33 34 σ ρ (fun q => (re q).toInt64) (fun q => (im q).toInt64) → k ρ) : wX10_asItIs (nI w) σ k := by
  unfold wX10_asItIs
  obtain ⟨n, key⟩ := gloop (N := 16) (fun t j => wX10_asItIs_2 k t (nI w) (nI j) (gd2 σ 33 34 (fun q => (re q).toInt64) (fun q => (im q).toInt64) j)) (by
    unfold wX10_asItIs_2
    exact ⟨fun _ => h _ (gD.of (by decide) rfl), fun z => absurd (by decide) z⟩) (by
    intro t j hj ih
    have v : vp_in (nI j) 16 := vp_in_nI hj (by decide)
    have v2 : vp_in (nI (16 * w + j)) 128 := vp_in_nI (by omega) (by decide)
    unfold wX10_asItIs_2
    rw [ix16, nI_1, nI_clamp (show j < 2 ^ 31 by omega), nI_clamp (show 16 * w + j < 2 ^ 31 by omega)]
    refine ⟨fun z => absurd z (nI_ge (b := 16) hj (by decide)), fun _ => ⟨v2, v, v2, v, ?_⟩⟩
    rw [gsl_f, gd2_1, gd2_1, (hr j hj).1, (hr j hj).2]
    have e := gd2_s (σ := σ) (f := 33) (f2 := 34) (n := j) (A := fun q => (re q).toInt64) (B := fun q => (im q).toInt64) (by decide)
    rw [e]
    exact ih)
  rw [gd2_0] at key
  exact ⟨n, key⟩
set_option maxHeartbeats 1000000 in
theorem v_plane {w x y s t : Nat} {A B : Nat → Int64} {σ ρ : gT} {k : gT → Prop} (hx : x < 4) (hy : y < 4) (ht : t < 4) (hD : gD 33 34 σ ρ A B) (h : ∀ ρ', gD 33 34 σ ρ' (fun q => A q + gtr (nI ((t + x * (q % 4) + y * (q / 4)) % 4)) (nI s).toInt64 0) (fun q => B q + gti (nI ((t + x * (q % 4) + y * (q / 4)) % 4)) (nI s).toInt64 0) → wX10_act_392 k (nI w) ρ') : ∃ m, wX10_act_78 k m (nI w) (nI x) (nI y) (nI s) (nI t) 0 ρ := by
  have key := gloop (N := 16) (fun m j => ∀ ρ', gD 33 34 σ ρ' (fun q => if q < j then A q + gtr (nI ((t + x * (q % 4) + y * (q / 4)) % 4)) (nI s).toInt64 0 else A q) (fun q => if q < j then B q + gti (nI ((t + x * (q % 4) + y * (q / 4)) % 4)) (nI s).toInt64 0 else B q) → wX10_act_78 k m (nI w) (nI x) (nI y) (nI s) (nI t) (nI j) ρ') (by
    intro ρ' hD'
    unfold wX10_act_78
    exact ⟨fun _ => h ρ' (hD'.cg (fun q hq => by rw [if_pos hq, if_pos hq]; exact ⟨rfl, rfl⟩)), fun z => absurd (by decide) z⟩) (by
    intro m j hj ih ρ' hD'
    have v : vp_in (nI j) 16 := vp_in_nI hj (by decide)
    unfold wX10_act_78
    have e := lean_m ⟨t, ht⟩ ⟨x, hx⟩ ⟨y, hy⟩ ⟨j, hj⟩
    dsimp only at e
    rw [e, nI_1, nI_clamp (show j < 2 ^ 31 by omega)]
    have d1 := (hD'.2 j hj).1
    have d2 := (hD'.2 j hj).2
    dsimp only at d1 d2
    rw [if_neg (Nat.lt_irrefl j)] at d1 d2
    refine ⟨fun z => absurd z (nI_ge (b := 16) hj (by decide)), fun _ => ⟨by decide, by decide, by decide, v, v_tRe.mpr ⟨v, v, v_tIm.mpr ⟨v, ?_⟩⟩⟩⟩
    rw [gsl_g (by decide)]
    refine ih _ (hD'.set (by decide) (fun q hq => ?_) (fun q hq => ?_))
    · rw [d1]
      by_cases z : q = j
      · subst z; rw [if_pos (by omega), if_pos rfl]
      · rw [if_neg z]
        by_cases y2 : q < j
        · rw [if_pos (by omega), if_pos y2]
        · rw [if_neg (by omega), if_neg y2]
    · rw [d2]
      by_cases z : q = j
      · subst z; rw [if_pos (by omega), if_pos rfl]
      · rw [if_neg z]
        by_cases y2 : q < j
        · rw [if_pos (by omega), if_pos y2]
        · rw [if_neg (by omega), if_neg y2])
  obtain ⟨m, key⟩ := key
  exact ⟨m, key ρ (hD.cg (fun q _ => ⟨if_neg (Nat.not_lt_zero q), if_neg (Nat.not_lt_zero q)⟩))⟩
set_option maxHeartbeats 1000000 in
theorem v_addW {w x : Nat} {re im : Nat → Int32} {A B : Nat → Int64} {σ ρ : gT} {k : gT → Prop} (hx : x < 8) (hr : ∀ q, q < 16 → σ.1 31 0 (16 * x + q) = re q ∧ σ.1 32 0 (16 * x + q) = im q) (hD : gD 33 34 σ ρ A B) (h : ∀ ρ', gD 33 34 σ ρ' (fun q => A q + (re q).toInt64) (fun q => B q + (im q).toInt64) → wX10_act_392 k (nI w) ρ') : ∃ m, wX10_act_279 k m (nI w) (nI x) 0 ρ := by
  have key := gloop (N := 16) (fun m j => ∀ ρ', gD 33 34 σ ρ' (fun q => if q < j then A q + (re q).toInt64 else A q) (fun q => if q < j then B q + (im q).toInt64 else B q) → wX10_act_279 k m (nI w) (nI x) (nI j) ρ') (by
    intro ρ' hD'
    unfold wX10_act_279
    exact ⟨fun _ => h ρ' (hD'.cg (fun q hq => by rw [if_pos hq, if_pos hq]; exact ⟨rfl, rfl⟩)), fun z => absurd (by decide) z⟩) (by
    intro m j hj ih ρ' hD'
    have v : vp_in (nI j) 16 := vp_in_nI hj (by decide)
    have v2 : vp_in (nI (16 * x + j)) 128 := vp_in_nI (by omega) (by decide)
    unfold wX10_act_279
    rw [ix16, nI_1, nI_clamp (show j < 2 ^ 31 by omega), nI_clamp (show 16 * x + j < 2 ^ 31 by omega), gsl_f, gsl_g (by decide), hD'.1, (hr j hj).1, (hr j hj).2]
    have d1 := (hD'.2 j hj).1
    have d2 := (hD'.2 j hj).2
    dsimp only at d1 d2
    rw [if_neg (Nat.lt_irrefl j)] at d1 d2
    refine ⟨fun z => absurd z (nI_ge (b := 16) hj (by decide)), fun _ => ⟨v, v2, v, v, v2, v, ih _ (hD'.set (by decide) (fun q hq => ?_) (fun q hq => ?_))⟩⟩
    · rw [d1]
      by_cases z : q = j
      · subst z; rw [if_pos (by omega), if_pos rfl]
      · rw [if_neg z]
        by_cases y2 : q < j
        · rw [if_pos (by omega), if_pos y2]
        · rw [if_neg (by omega), if_neg y2]
    · rw [d2]
      by_cases z : q = j
      · subst z; rw [if_pos (by omega), if_pos rfl]
      · rw [if_neg z]
        by_cases y2 : q < j
        · rw [if_pos (by omega), if_pos y2]
        · rw [if_neg (by omega), if_neg y2])
  obtain ⟨m, key⟩ := key
  exact ⟨m, key ρ (hD.cg (fun q _ => ⟨if_neg (Nat.not_lt_zero q), if_neg (Nat.not_lt_zero q)⟩))⟩
set_option maxHeartbeats 1000000 in
theorem v_wipe {w : Nat} {A B : Nat → Int64} {σ ρ : gT} {k : gT → Prop} (hD : gD 33 34 σ ρ A B) (h : ∀ ρ', gD 33 34 σ ρ' (fun _ => 0) (fun _ => 0) → wX10_act_392 k (nI w) ρ') : ∃ m, wX10_act_363 k m (nI w) 0 ρ := by
  have key := gloop (N := 16) (fun m j => ∀ ρ', gD 33 34 σ ρ' (fun q => if q < j then 0 else A q) (fun q => if q < j then 0 else B q) → wX10_act_363 k m (nI w) (nI j) ρ') (by
    intro ρ' hD'
    unfold wX10_act_363
    exact ⟨fun _ => h ρ' (hD'.cg (fun q hq => by rw [if_pos hq, if_pos hq]; exact ⟨rfl, rfl⟩)), fun z => absurd (by decide) z⟩) (by
    intro m j hj ih ρ' hD'
    have v : vp_in (nI j) 16 := vp_in_nI hj (by decide)
    unfold wX10_act_363
    rw [nI_1, nI_clamp (show j < 2 ^ 31 by omega)]
    refine ⟨fun z => absurd z (nI_ge (b := 16) hj (by decide)), fun _ => ⟨v, v, ih _ (hD'.set (by decide) (fun q hq => ?_) (fun q hq => ?_))⟩⟩
    · by_cases z : q = j
      · subst z; rw [if_pos (by omega), if_pos rfl]
      · rw [if_neg z]
        by_cases y2 : q < j
        · rw [if_pos (by omega), if_pos y2]
        · rw [if_neg (by omega), if_neg y2]
    · by_cases z : q = j
      · subst z; rw [if_pos (by omega), if_pos rfl]
      · rw [if_neg z]
        by_cases y2 : q < j
        · rw [if_pos (by omega), if_pos y2]
        · rw [if_neg (by omega), if_neg y2])
  obtain ⟨m, key⟩ := key
  exact ⟨m, key ρ (hD.cg (fun q _ => ⟨if_neg (Nat.not_lt_zero q), if_neg (Nat.not_lt_zero q)⟩))⟩
theorem and3 : ∀ x : Fin 4, nI x &&& (3 : Int32) = nI x := by decide +kernel
set_option maxHeartbeats 1000000 in
theorem v_act {ac : Nat × List Nat} {S : gWS} {σ : gT} {k : gT → Prop} (hok : aOk ac) (hS : gW10 S σ) (hc : σ.1 10 0 20 = nI S.2.2) (h : ∀ τ', (∀ a, a ≠ 10 → a ≠ 31 → a ≠ 32 → τ'.1 a = σ.1 a) → (∀ c, c ≠ 20 → τ'.1 10 0 c = σ.1 10 0 c) → gW10 (aD ac S) τ' → τ'.1 10 0 20 = nI (aD ac S).2.2 → k τ') : wX10_act (lN (ww ac.1)) (nI (ac.2.getD 0 0)) (nI (ac.2.getD 1 0)) (nI (ac.2.getD 2 0)) (nI (aS ac)) (nI (aT ac)) σ k := by
  obtain ⟨o0, o1, o2, o3, o4⟩ := aok_at hok
  obtain ⟨v, vs⟩ := ac
  have h1 := hok.1
  dsimp only at *
  unfold aD at h
  dsimp only at h
  generalize vs.getD 0 0 = w at *
  generalize vs.getD 1 0 = x at *
  generalize vs.getD 2 0 = y at *
  unfold wX10_act
  refine v_asItIs (re := S.1 w) (im := S.2.1 w) o0 (fun q hq => hS w q o0 hq) (fun ρ hD => ?_)
  have P3 : x < 4 → y < 4 → nI x &&& (3 : Int32) = nI x ∧ nI y &&& (3 : Int32) = nI y := fun a b => ⟨and3 ⟨x, a⟩, and3 ⟨y, b⟩⟩
  rcases (show v = 0 ∨ v = 1 ∨ v = 2 ∨ v = 3 ∨ v = 4 ∨ v = 5 ∨ v = 6 by omega) with rfl | rfl | rfl | rfl | rfl | rfl | rfl
  · obtain ⟨x4, y4⟩ := o2 (by decide)
    have vp : vp_in (nI (x + 4 * y)) 16 := vp_in_nI (by omega) (by decide)
    rw [(P3 x4 y4).1, (P3 x4 y4).2, nI_x4, nI_add, nI_clamp (show x + 4 * y < 2 ^ 31 by omega)]
    refine ⟨fun z => absurd (by decide) z, fun _ => ⟨vp, v_tRe.mpr ⟨vp, vp, v_tIm.mpr ⟨vp, ?_⟩⟩⟩⟩
    rw [gsl_g (by decide)]
    refine v_fin o0 hS hc (hD.set (by decide) (fun q hq => ?_) (fun q hq => ?_)) h
    · rw [(hD.2 (x + 4 * y) (by omega)).1]
      show (if q = x + 4 * y then _ else _) = _
      by_cases z : q = x + 4 * y
      · rw [if_pos z, if_pos z, z]
      · rw [if_neg z, if_neg z]
    · rw [(hD.2 (x + 4 * y) (by omega)).2]
      show (if q = x + 4 * y then _ else _) = _
      by_cases z : q = x + 4 * y
      · rw [if_pos z, if_pos z, z]
      · rw [if_neg z, if_neg z]
  · obtain ⟨x4, y4⟩ := o2 (by decide)
    refine ⟨fun _ => ⟨fun z => absurd (by decide) z, fun _ => ?_⟩, fun z => absurd z (by decide)⟩
    exact v_plane x4 y4 o4 hD (fun ρ' hD' => v_fin o0 hS hc (hD'.cg (fun q hq => ⟨rfl, rfl⟩)) h)
  · obtain ⟨x4, y4⟩ := o2 (by decide)
    have vp : vp_in (nI (x + 4 * y)) 16 := vp_in_nI (by omega) (by decide)
    rw [(P3 x4 y4).1, (P3 x4 y4).2, nI_x4, nI_add, nI_clamp (show x + 4 * y < 2 ^ 31 by omega)]
    refine ⟨fun _ => ⟨fun _ => ⟨fun z => absurd (by decide) z, fun _ => ⟨vp, vp, ?_⟩⟩, fun z => absurd z (by decide)⟩, fun z => absurd z (by decide)⟩
    exact v_fin o0 hS hc (hD.set (by decide) (fun q hq => rfl) (fun q hq => rfl)) h
  · obtain ⟨x4, y4⟩ := o2 (by decide)
    have vp : vp_in (nI (x + 4 * y)) 16 := vp_in_nI (by omega) (by decide)
    have v2 : vp_in (nI (16 * w + (x + 4 * y))) 128 := vp_in_nI (by omega) (by decide)
    rw [(P3 x4 y4).1, (P3 x4 y4).2, nI_x4, nI_add, ix16, nI_clamp (show x + 4 * y < 2 ^ 31 by omega), nI_clamp (show 16 * w + (x + 4 * y) < 2 ^ 31 by omega), hD.1, (hS w (x + 4 * y) o0 (by omega)).1, (hS w (x + 4 * y) o0 (by omega)).2]
    refine ⟨fun _ => ⟨fun _ => ⟨fun _ => ⟨fun z => absurd (by decide) z, fun _ => ⟨v2, v2, v_tRe.mpr ⟨vp, v2, v2, ?_⟩⟩⟩, fun z => absurd z (by decide)⟩, fun z => absurd z (by decide)⟩, fun z => absurd z (by decide)⟩
    rw [gsl_f, gsl_f, hD.1, (hS w (x + 4 * y) o0 (by omega)).1, (hS w (x + 4 * y) o0 (by omega)).2]
    refine v_tIm.mpr ⟨vp, v_fin o0 hS hc (hD.set (by decide) (fun q hq => ?_) (fun q hq => ?_)) h⟩
    · show (if q = x + 4 * y then _ else _) = _
      by_cases z : q = x + 4 * y
      · rw [if_pos z, if_pos z, z]
      · rw [if_neg z, if_neg z]
    · show (if q = x + 4 * y then _ else _) = _
      by_cases z : q = x + 4 * y
      · rw [if_pos z, if_pos z, z]
      · rw [if_neg z, if_neg z]
  · refine ⟨fun _ => ⟨fun _ => ⟨fun _ => ⟨fun _ => ⟨fun z => absurd (by decide) z, fun _ => ?_⟩, fun z => absurd z (by decide)⟩, fun z => absurd z (by decide)⟩, fun z => absurd z (by decide)⟩, fun z => absurd z (by decide)⟩
    exact v_addW (re := S.1 x) (im := S.2.1 x) o1 (fun q hq => hS x q o1 hq) hD (fun ρ' hD' => v_fin o0 hS hc (hD'.cg (fun q hq => ⟨rfl, rfl⟩)) h)
  · refine ⟨fun _ => ⟨fun _ => ⟨fun _ => ⟨fun _ => ⟨fun _ => ⟨fun z => absurd (by decide) z, fun _ => ?_⟩, fun z => absurd z (by decide)⟩, fun z => absurd z (by decide)⟩, fun z => absurd z (by decide)⟩, fun z => absurd z (by decide)⟩, fun z => absurd z (by decide)⟩
    refine v_goWay (b := false) (re := S.1 w) (im := S.2.1 w) o0 (Or.inl ⟨rfl, rfl⟩) (fun q hq => by rw [hD.1]; exact hS w q o0 hq) (v_fin o0 hS hc ((gD.of (by decide) hD.1).cg (fun q hq => ⟨rfl, rfl⟩)) h)
  · refine ⟨fun _ => ⟨fun _ => ⟨fun _ => ⟨fun _ => ⟨fun _ => ⟨fun _ => ?_, fun z => absurd z (by decide)⟩, fun z => absurd z (by decide)⟩, fun z => absurd z (by decide)⟩, fun z => absurd z (by decide)⟩, fun z => absurd z (by decide)⟩, fun z => absurd z (by decide)⟩
    exact v_wipe hD (fun ρ' hD' => v_fin o0 hS hc (hD'.cg (fun q hq => ⟨rfl, rfl⟩)) h)
