/-! PURE: an act done by the class, and by the model -/
theorem nI_2 (a : Nat) : nI a + 2 = nI (a + 2) := nI_add a 2
theorem nI_3 (a : Nat) : nI a + 3 = nI (a + 3) := nI_add a 3
theorem nI_4 (a : Nat) : nI a + 4 = nI (a + 4) := nI_add a 4
theorem nI_x4 (a : Nat) : (4 : Int32) * nI a = nI (4 * a) := pk_mul 4 a
set_option maxHeartbeats 1000000 in
theorem aok_at {ac : Nat × List Nat} (h : aOk ac) : ac.2.getD 0 0 < 8 ∧ ac.2.getD 1 0 < 8 ∧ (ac.1 ≤ 3 → ac.2.getD 1 0 < 4 ∧ ac.2.getD 2 0 < 4) ∧ aS ac ≤ 1000 ∧ aT ac < 4 := by
  obtain ⟨v, vs⟩ := ac
  obtain ⟨h1, h2, h3⟩ := h
  dsimp only at h1 h2 h3 ⊢
  have df : ∀ i, vs.length ≤ i → vs.getD i 0 = 0 := fun i hi => by rw [List.getD_eq_getElem?_getD, List.getElem?_eq_none hi]; rfl
  rcases (show v = 0 ∨ v = 1 ∨ v = 2 ∨ v = 3 ∨ v = 4 ∨ v = 5 ∨ v = 6 by omega) with rfl | rfl | rfl | rfl | rfl | rfl | rfl
  · have a0 : vs.getD 0 0 ≤ 7 := h3 0 (by decide)
    have a1 : vs.getD 1 0 ≤ 3 := h3 1 (by decide)
    have a2 : vs.getD 2 0 ≤ 3 := h3 2 (by decide)
    have a3 : vs.getD 3 0 ≤ 1000 := h3 3 (by decide)
    have a4 : vs.getD 4 0 ≤ 3 := h3 4 (by decide)
    exact ⟨by omega, by omega, fun _ => ⟨by omega, by omega⟩, a3, by show vs.getD 4 0 < 4; omega⟩
  · have a0 : vs.getD 0 0 ≤ 7 := h3 0 (by decide)
    have a1 : vs.getD 1 0 ≤ 3 := h3 1 (by decide)
    have a2 : vs.getD 2 0 ≤ 3 := h3 2 (by decide)
    have a3 : vs.getD 3 0 ≤ 1000 := h3 3 (by decide)
    have a4 : vs.getD 4 0 ≤ 3 := h3 4 (by decide)
    exact ⟨by omega, by omega, fun _ => ⟨by omega, by omega⟩, a3, by show vs.getD 4 0 < 4; omega⟩
  · have a0 : vs.getD 0 0 ≤ 7 := h3 0 (by decide)
    have a1 : vs.getD 1 0 ≤ 3 := h3 1 (by decide)
    have a2 : vs.getD 2 0 ≤ 3 := h3 2 (by decide)
    exact ⟨by omega, by omega, fun _ => ⟨by omega, by omega⟩, by show 0 ≤ 1000; omega, by show 0 < 4; omega⟩
  · have a0 : vs.getD 0 0 ≤ 7 := h3 0 (by decide)
    have a1 : vs.getD 1 0 ≤ 3 := h3 1 (by decide)
    have a2 : vs.getD 2 0 ≤ 3 := h3 2 (by decide)
    have a3 : vs.getD 3 0 ≤ 3 := h3 3 (by decide)
    exact ⟨by omega, by omega, fun _ => ⟨by omega, by omega⟩, by show 0 ≤ 1000; omega, by show vs.getD 3 0 < 4; omega⟩
  · have a0 : vs.getD 0 0 ≤ 7 := h3 0 (by decide)
    have a1 : vs.getD 1 0 ≤ 7 := h3 1 (by decide)
    exact ⟨by omega, by omega, fun z => absurd z (by decide), by show 0 ≤ 1000; omega, by show 0 < 4; omega⟩
  · have a0 : vs.getD 0 0 ≤ 7 := h3 0 (by decide)
    have a1 := df 1 (by rw [h2]; decide)
    exact ⟨by omega, by omega, fun z => absurd z (by decide), by show 0 ≤ 1000; omega, by show 0 < 4; omega⟩
  · have a0 : vs.getD 0 0 ≤ 7 := h3 0 (by decide)
    have a1 := df 1 (by rw [h2]; decide)
    exact ⟨by omega, by omega, fun z => absurd z (by decide), by show 0 ≤ 1000; omega, by show 0 < 4; omega⟩
set_option maxHeartbeats 1000000 in
theorem u_perform {a : Nat} {ac : Nat × List Nat} {S : gWS} {σ : gT} {k : Int32 → gT → Prop} (ha : a < 80) (hok : aOk ac) (hB : gWB S.1 S.2.1) (hS : gW9 S σ) (hn : ∀ j, j < ac.2.length → σ.1 20 0 (a * 5 + j) = nI (ac.2.getD j 0)) (h : ∀ d τ', (∀ a, a ≠ 23 → a ≠ 24 → τ'.1 a = σ.1 a) → gW9 (aD ac S) τ' → ((d = 1 ∧ (aD ac S).2.2 = S.2.2 + 1) ∨ (d = 0 ∧ (aD ac S).2.2 = S.2.2)) → k d τ') : wX9_perform (nI ac.1) (nI (a * 5)) σ k := by
  obtain ⟨o0, o1, o2, o3, o4⟩ := aok_at hok
  obtain ⟨v, vs⟩ := ac
  obtain ⟨h1, h2, h3⟩ := hok
  dsimp only at *
  have hm : gsm (aA v (vs.getD 0 0) (vs.getD 1 0) (vs.getD 2 0) (aS (v, vs)) (aT (v, vs)) S.1 S.2.1) (aB v (vs.getD 0 0) (vs.getD 1 0) (vs.getD 2 0) (aS (v, vs)) (aT (v, vs)) S.1 S.2.1) := aAB_sm hB o0 o1 o3
  unfold aD at h
  dsimp only at h
  have n0 := hn 0 (by rw [h2]; have m1 : ∀ i : Fin 7, 0 < (mo i).length := by decide
                      exact m1 ⟨v, h1⟩)
  generalize vs.getD 0 0 = w at *
  generalize ex : vs.getD 1 0 = x at *
  generalize ey : vs.getD 2 0 = y at *
  rw [Nat.add_zero] at n0
  unfold wX9_perform wX9_placeTold
  rw [nI_clamp (show a * 5 < 2 ^ 31 by omega), n0, nI_clamp (show w < 2 ^ 31 by omega), nI_toInt (show v < 2 ^ 31 by omega), nI_1 (a * 5), nI_2 (a * 5), nI_3 (a * 5), nI_4 (a * 5), nI_clamp (show a * 5 + 1 < 2 ^ 31 by omega), nI_clamp (show a * 5 + 2 < 2 ^ 31 by omega), nI_clamp (show a * 5 + 3 < 2 ^ 31 by omega), nI_clamp (show a * 5 + 4 < 2 ^ 31 by omega)]
  have v1 : vp_in (nI (a * 5 + 1)) 400 := vp_in_nI (by omega) (by decide)
  have v2 : vp_in (nI (a * 5 + 2)) 400 := vp_in_nI (by omega) (by decide)
  have v3 : vp_in (nI (a * 5 + 3)) 400 := vp_in_nI (by omega) (by decide)
  have v4 : vp_in (nI (a * 5 + 4)) 400 := vp_in_nI (by omega) (by decide)
  refine ⟨vp_in_nI (by omega) (by decide), vp_in_nI o0 (by decide), u_start (fun ρ hD0 => ?_)⟩
  have hD : gD 12 13 σ ρ (fun q => (S.1 w q).toInt64) (fun q => (S.2.1 w q).toInt64) := hD0.cg (fun q hq => by rw [(hS w q o0 hq).1, (hS w q o0 hq).2]; exact ⟨rfl, rfl⟩)
  dsimp only
  rw [hD.1]
  rcases (show v = 0 ∨ v = 1 ∨ v = 2 ∨ v = 3 ∨ v = 4 ∨ v = 5 ∨ v = 6 by omega) with rfl | rfl | rfl | rfl | rfl | rfl | rfl
  · have n1 : σ.1 20 0 (a * 5 + 1) = nI x := by rw [← ex]; exact hn 1 (by rw [h2]; decide)
    have n2 : σ.1 20 0 (a * 5 + 2) = nI y := by rw [← ey]; exact hn 2 (by rw [h2]; decide)
    have n3 : σ.1 20 0 (a * 5 + 3) = nI (aS (0, vs)) := hn 3 (by rw [h2]; decide)
    have n4 : σ.1 20 0 (a * 5 + 4) = nI (aT (0, vs)) := hn 4 (by rw [h2]; decide)
    obtain ⟨x4, y4⟩ := o2 (by decide)
    have main : vp_in (nI (a * 5 + 1)) 400 ∧ vp_in (nI (a * 5 + 2)) 400 ∧ vp_in (nI (a * 5 + 3)) 400 ∧ vp_in (nI (a * 5 + 4)) 400 ∧ wX1_addTurned (σ.1 20 0 (a * 5 + 1) + 4 * σ.1 20 0 (a * 5 + 2)) (σ.1 20 0 (a * 5 + 3)).toInt64 0 (σ.1 20 0 (a * 5 + 4)) ρ (fun s11 => wX9_perform_202 k w s11) := by
      rw [n1, n2, n3, n4, nI_x4, nI_add]
      refine ⟨v1, v2, v3, v4, u_addT (by omega) (u_fin o0 hS hm (hD.set (by decide) (fun q hq => ?_) (fun q hq => ?_)) h)⟩
      · rw [(hD.2 (x + 4 * y) (by omega)).1]
        show (if q = x + 4 * y then _ else _) = _
        by_cases z : q = x + 4 * y
        · rw [if_pos z, if_pos z, z]
        · rw [if_neg z, if_neg z]
      · rw [(hD.2 (x + 4 * y) (by omega)).2]
        show (if q = x + 4 * y then _ else _) = _
        by_cases z : q = x + 4 * y
        · rw [if_pos z, if_pos z, z]
        · rw [if_neg z, if_neg z]
    refine ⟨fun z => ?_, fun z => ?_, fun z => ?_, fun z => ?_, fun z => ?_, fun z => ?_, fun z => ?_, trivial⟩ <;> first | exact main | omega
  · have n1 : σ.1 20 0 (a * 5 + 1) = nI x := by rw [← ex]; exact hn 1 (by rw [h2]; decide)
    have n2 : σ.1 20 0 (a * 5 + 2) = nI y := by rw [← ey]; exact hn 2 (by rw [h2]; decide)
    have n3 : σ.1 20 0 (a * 5 + 3) = nI (aS (1, vs)) := hn 3 (by rw [h2]; decide)
    have n4 : σ.1 20 0 (a * 5 + 4) = nI (aT (1, vs)) := hn 4 (by rw [h2]; decide)
    obtain ⟨x4, y4⟩ := o2 (by decide)
    have main : vp_in (nI (a * 5 + 1)) 400 ∧ vp_in (nI (a * 5 + 2)) 400 ∧ vp_in (nI (a * 5 + 3)) 400 ∧ vp_in (nI (a * 5 + 4)) 400 ∧ wX1_addPlane (σ.1 20 0 (a * 5 + 1)) (σ.1 20 0 (a * 5 + 2)) (σ.1 20 0 (a * 5 + 3)) (σ.1 20 0 (a * 5 + 4)) ρ (fun s13 => wX9_perform_202 k w s13) := by
      rw [n1, n2, n3, n4]
      exact ⟨v1, v2, v3, v4, u_plane x4 y4 o4 hD (fun ρ' hD' => u_fin o0 hS hm (hD'.cg (fun q hq => ⟨rfl, rfl⟩)) h)⟩
    refine ⟨fun z => ?_, fun z => ?_, fun z => ?_, fun z => ?_, fun z => ?_, fun z => ?_, fun z => ?_, trivial⟩ <;> first | exact main | omega
  · have n1 : σ.1 20 0 (a * 5 + 1) = nI x := by rw [← ex]; exact hn 1 (by rw [h2]; decide)
    have n2 : σ.1 20 0 (a * 5 + 2) = nI y := by rw [← ey]; exact hn 2 (by rw [h2]; decide)
    obtain ⟨x4, y4⟩ := o2 (by decide)
    have main : vp_in (nI (a * 5 + 1)) 400 ∧ vp_in (nI (a * 5 + 2)) 400 ∧ wX1_put (σ.1 20 0 (a * 5 + 1) + 4 * σ.1 20 0 (a * 5 + 2)) 0 0 ρ (fun s18 => wX9_perform_202 k w s18) := by
      rw [n1, n2, nI_x4, nI_add]
      unfold wX1_put
      rw [nI_clamp (show x + 4 * y < 2 ^ 31 by omega)]
      have vp : vp_in (nI (x + 4 * y)) 16 := vp_in_nI (by omega) (by decide)
      exact ⟨v1, v2, vp, vp, u_fin o0 hS hm (hD.set (by decide) (fun q hq => rfl) (fun q hq => rfl)) h⟩
    refine ⟨fun z => ?_, fun z => ?_, fun z => ?_, fun z => ?_, fun z => ?_, fun z => ?_, fun z => ?_, trivial⟩ <;> first | exact main | omega
  · have n1 : σ.1 20 0 (a * 5 + 1) = nI x := by rw [← ex]; exact hn 1 (by rw [h2]; decide)
    have n2 : σ.1 20 0 (a * 5 + 2) = nI y := by rw [← ey]; exact hn 2 (by rw [h2]; decide)
    have n3 : σ.1 20 0 (a * 5 + 3) = nI (aT (3, vs)) := hn 3 (by rw [h2]; decide)
    obtain ⟨x4, y4⟩ := o2 (by decide)
    have main : vp_in (nI (a * 5 + 1)) 400 ∧ vp_in (nI (a * 5 + 2)) 400 ∧ vp_in (nI (a * 5 + 3)) 400 ∧ wX1_turn (σ.1 20 0 (a * 5 + 1) + 4 * σ.1 20 0 (a * 5 + 2)) (σ.1 20 0 (a * 5 + 3)) ρ (fun s23 => wX9_perform_202 k w s23) := by
      rw [n1, n2, n3, nI_x4, nI_add]
      unfold wX1_turn wX1_put
      rw [nI_clamp (show x + 4 * y < 2 ^ 31 by omega), (hD.2 (x + 4 * y) (by omega)).1, (hD.2 (x + 4 * y) (by omega)).2]
      have vp : vp_in (nI (x + 4 * y)) 16 := vp_in_nI (by omega) (by decide)
      refine ⟨v1, v2, v3, vp, vp, u_tRe.mpr ⟨vp, vp, ?_⟩⟩
      rw [(hD.2 (x + 4 * y) (by omega)).1, (hD.2 (x + 4 * y) (by omega)).2]
      refine u_tIm.mpr ⟨vp, vp, u_fin o0 hS hm (hD.set (by decide) (fun q hq => ?_) (fun q hq => ?_)) h⟩
      · show (if q = x + 4 * y then _ else _) = _
        by_cases z : q = x + 4 * y
        · rw [if_pos z, if_pos z, z]
        · rw [if_neg z, if_neg z]
      · show (if q = x + 4 * y then _ else _) = _
        by_cases z : q = x + 4 * y
        · rw [if_pos z, if_pos z, z]
        · rw [if_neg z, if_neg z]
    refine ⟨fun z => ?_, fun z => ?_, fun z => ?_, fun z => ?_, fun z => ?_, fun z => ?_, fun z => ?_, trivial⟩ <;> first | exact main | omega
  · have n1 : σ.1 20 0 (a * 5 + 1) = nI x := by rw [← ex]; exact hn 1 (by rw [h2]; decide)
    have main : vp_in (nI (a * 5 + 1)) 400 ∧ vp_in (σ.1 20 0 (a * 5 + 1)) 8 ∧ wX1_addWave ((σ.1 20 0 (a * 5 + 1)).toNatClampNeg) ρ (fun s25 => wX9_perform_202 k w s25) := by
      rw [n1, nI_clamp (show x < 2 ^ 31 by omega)]
      refine ⟨v1, vp_in_nI o1 (by decide), u_addW hD (fun ρ' hD' => u_fin o0 hS hm (hD'.cg (fun q hq => ?_)) h)⟩
      rw [(hS x q o1 hq).1, (hS x q o1 hq).2]
      exact ⟨rfl, rfl⟩
    refine ⟨fun z => ?_, fun z => ?_, fun z => ?_, fun z => ?_, fun z => ?_, fun z => ?_, fun z => ?_, trivial⟩ <;> first | exact main | omega
  · have main : wX1_sendOn w 0 ρ (fun s27 => wX9_perform_202 k w s27) := by
      refine u_sendOn (b := false) (Or.inl ⟨rfl, rfl⟩) (u_fin o0 hS hm ((gD.of (by decide) hD.1).cg (fun q hq => ?_)) h)
      rw [hD.1]
      have e : ∀ j, j < 16 → σ.1 23 w j = S.1 w j ∧ σ.1 24 w j = S.2.1 w j := fun j hj => hS w j o0 hj
      show gwA false (S.1 w) (S.2.1 w) q = gwA false (σ.1 23 w) (σ.1 24 w) q ∧ gwB false (S.1 w) (S.2.1 w) q = gwB false (σ.1 23 w) (σ.1 24 w) q
      unfold gwA gwB
      exact ⟨gsum_cong (fun j hj => by rw [(e j hj).1, (e j hj).2]), gsum_cong (fun j hj => by rw [(e j hj).1, (e j hj).2])⟩
    refine ⟨fun z => ?_, fun z => ?_, fun z => ?_, fun z => ?_, fun z => ?_, fun z => ?_, fun z => ?_, trivial⟩ <;> first | exact main | omega
  · have main : wX1_darken ρ (fun s6 => wX9_perform_202 k w s6) := u_darken (u_fin o0 hS hm ((gD.of (by decide) hD.1).cg (fun q hq => ⟨rfl, rfl⟩)) h)
    refine ⟨fun z => ?_, fun z => ?_, fun z => ?_, fun z => ?_, fun z => ?_, fun z => ?_, fun z => ?_, trivial⟩ <;> first | exact main | omega
