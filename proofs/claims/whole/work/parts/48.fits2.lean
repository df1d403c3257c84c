/-! PURE: fits, the class's side -/
def fR (near c : Nat) : Nat → Int32
  | 0 => nI c
  | j + 1 => if near.testBit (3 - j) = true then fR near c j >>> ((2 : Int32) &&& 31) else fR near c j
def fW : Nat → Int32
  | 0 => 1
  | j + 1 => fW j * 5
def fN (near c : Nat) : Nat → Int32
  | 0 => 0
  | j + 1 => if near.testBit (3 - j) = true then fN near c j + (fW j * ((fR near c j &&& 3) + 1)) else fN near c j
def fTn (near c j : Nat) : Int32 := if near.testBit (3 - j) = true then fR near c j &&& 3 else -1
def fCa (near c u : Nat) : Nat → Int32
  | 0 => 0
  | x + 1 => if fTn near c (3 - x) = -1 then fCa near c u x else fCa near c u x + (gSV 45).getD ((fTn near c (3 - x) + (nI u * nI x)) &&& 3).toNatClampNeg 0
def fCb (near c u : Nat) : Nat → Int32
  | 0 => 0
  | x + 1 => if fTn near c (3 - x) = -1 then fCb near c u x else fCb near c u x + (gSV 46).getD ((fTn near c (3 - x) + (nI u * nI x)) &&& 3).toNatClampNeg 0
def fCr (near c u : Nat) : Int32 := fCa near c u 4 * fCa near c u 4 + fCb near c u 4 * fCb near c u 4
def gFR (σ τ : gT) : Prop := ∀ a, a ≠ 4 → a ≠ 18 → τ.1 a = σ.1 a
theorem gFR_su {σ τ : gT} {f i j : Nat} {x : Int32} (h : gFR σ τ) (hf : f = 4 ∨ f = 18) : gFR σ (gsu τ f i j x) := fun a a1 a2 => by rw [gsu_fam (by omega)]; exact h a a1 a2
set_option maxHeartbeats 1000000 in
theorem u_spread {near c : Nat} {σ ρ : gT} {k : gT → Prop} (hn : near < 16) (hρ : gFR σ ρ) (h : ∀ τ, gFR σ τ → (∀ x, x < 4 → τ.1 18 0 x = fTn near c (3 - x)) → τ.1 4 0 1 = fN near c 4 → k τ) : wX4_spread (nI near) (nI c) ρ k := by
  unfold wX4_spread
  have key := gloop (N := 4) (fun t j => ∀ τ : gT, gFR σ τ → (∀ i, i < j → τ.1 18 0 (3 - i) = fTn near c i) → τ.1 4 0 1 = fN near c j → wX4_spread_13 k t (nI near) (fR near c j) (fW j) (xd j) τ) (by
    intro τ h1 h2 h3
    unfold wX4_spread_13
    refine ⟨fun _ => h τ h1 (fun x hx => ?_) h3, fun z => absurd xd_4 z⟩
    have := h2 (3 - x) (by omega)
    rw [show 3 - (3 - x) = x by omega] at this
    exact this) (by
    intro t j hj ih τ h1 h2 h3
    have e : fR near c (j + 1) = if near.testBit (3 - j) = true then fR near c j >>> ((2 : Int32) &&& 31) else fR near c j := rfl
    have e1 : fN near c (j + 1) = if near.testBit (3 - j) = true then fN near c j + (fW j * ((fR near c j &&& 3) + 1)) else fN near c j := rfl
    have e2 : fW (j + 1) = fW j * 5 := rfl
    rw [e, e1, e2] at ih
    have v : vp_in (nI (3 - j)) 4 := vp_in_nI (by omega) (by decide)
    unfold wX4_spread_13 wX4_spread_71
    rw [xd_s]
    refine ⟨fun z => absurd z (xd_n ⟨j, hj⟩).1, fun _ => ?_⟩
    have exd : xd j = nI (3 - j) := (xd_n ⟨j, hj⟩).2
    rw [exd, nI_clamp (show 3 - j < 2 ^ 31 by omega), bit_ix (by omega) (by omega)]
    refine ⟨v, fun cb => ?_, fun cb => ⟨v, v, ?_⟩⟩
    · rw [if_neg cb, if_neg cb] at ih
      refine ih _ (gFR_su h1 (Or.inr rfl)) (fun i hi => ?_) (by rw [gsu_f (by decide)]; exact h3)
      by_cases z : i = j
      · subst z
        rw [gsu_e]
        unfold fTn
        rw [if_neg cb]
      · rw [gsu_s (by omega)]
        exact h2 i (by omega)
    · rw [if_pos cb, if_pos cb] at ih
      refine ih _ (gFR_su (gFR_su (gFR_su h1 (Or.inr rfl)) (Or.inr rfl)) (Or.inl rfl)) (fun i hi => ?_) ?_
      · rw [gsu_f (by decide)]
        by_cases z : i = j
        · subst z
          rw [gsu_e]
          unfold fTn
          rw [if_pos cb]
        · rw [gsu_s (by omega), gsu_s (by omega)]
          exact h2 i (by omega)
      · rw [gsu_e, gsu_f (by decide), gsu_f (by decide), gsu_e, h3])
  obtain ⟨t, key⟩ := key
  have key := key (gsu ρ 4 0 1 0) (gFR_su hρ (Or.inl rfl)) (fun i hi => absurd hi (Nat.not_lt_zero i)) gsu_e
  rw [xd_0] at key
  exact ⟨t, key⟩
set_option maxHeartbeats 1000000 in
theorem u_far {near c u : Nat} {τ : gT} {k : Int32 → gT → Prop} (ht : ∀ x, x < 4 → τ.1 18 0 x = fTn near c (3 - x)) (h : k (fCr near c u) τ) : wX4_farBright (nI u) τ k := by
  unfold wX4_farBright
  refine gloop (N := 4) (fun t x => wX4_farBright_7 k t (nI u) (fCa near c u x) (fCb near c u x) (nI x) τ) ?_ ?_
  · unfold wX4_farBright_7
    exact ⟨fun _ => h, fun z => absurd (by decide) z⟩
  · intro t x hx ih
    have e : fCa near c u (x + 1) = if fTn near c (3 - x) = -1 then fCa near c u x else fCa near c u x + (gSV 45).getD ((fTn near c (3 - x) + (nI u * nI x)) &&& 3).toNatClampNeg 0 := rfl
    have e1 : fCb near c u (x + 1) = if fTn near c (3 - x) = -1 then fCb near c u x else fCb near c u x + (gSV 46).getD ((fTn near c (3 - x) + (nI u * nI x)) &&& 3).toNatClampNeg 0 := rfl
    rw [e, e1] at ih
    have v : vp_in (nI x) 4 := vp_in_nI hx (by decide)
    unfold wX4_farBright_7 wX4_farBright_58
    rw [nI_1, nI_clamp (show x < 2 ^ 31 by omega), ht x hx]
    have va : vp_in ((fTn near c (3 - x) + (nI u * nI x)) &&& 3) 4 := pk_andIn _ 2 (by decide) (by decide)
    refine ⟨fun z => absurd z (nI_ge (b := 4) hx (by decide)), fun _ => ⟨v, fun cc => ?_, fun cc => ⟨v, va, va, ?_⟩⟩⟩
    · rw [if_pos cc, if_pos cc] at ih
      exact ih
    · rw [if_neg cc, if_neg cc] at ih
      exact ih
def fcf (near : Nat) (V : List Int32) (c : Nat) : Bool := decide (fV (fCr near c) = V)
set_option maxHeartbeats 1000000 in
theorem u_sends {near c s i : Nat} {V : Nat → Int32} {τ : gT} {k : Int32 → gT → Prop} (hi : i + 4 ≤ 64) (ht : ∀ x, x < 4 → τ.1 18 0 x = fTn near c (3 - x)) (hV : ∀ u, u < 4 → τ.1 21 s (i + u) = V u) (h : k (if fcf near (fV V) c = true then 1 else 0) τ) : wX4_sends s (nI i) τ k := by
  have hm : fcf near (fV V) c = true ↔ ∀ u, u < 4 → fCr near c u = V u := by
    unfold fcf
    rw [decide_eq_true_iff, fV_iff]
  unfold wX4_sends
  have key := gloop (N := 4) (fun t u => (∀ v, v < u → fCr near c v = V v) → wX4_sends_2 k t s (nI i) (nI u) τ) (by
    intro hv
    unfold wX4_sends_2
    rw [if_pos (hm.mpr hv)] at h
    exact ⟨fun _ => ⟨Or.inr rfl, h⟩, fun z => absurd (by decide) z⟩) (by
    intro t u hu ih hv
    unfold wX4_sends_2
    refine ⟨fun z => absurd z (nI_ge (b := 4) hu (by decide)), fun _ => u_far ht ?_⟩
    rw [nI_add, nI_clamp (show i + u < 2 ^ 31 by omega), hV u hu, nI_1]
    refine ⟨vp_in_nI (by omega) (by decide), fun c2 => ih (fun v hv2 => ?_), fun c2 => ⟨Or.inl rfl, ?_⟩⟩
    · by_cases z : v = u
      · rw [z]; exact c2
      · exact hv v (by omega)
    · rw [if_neg (fun z => c2 (hm.mp z u hu))] at h
      exact h)
  obtain ⟨t, key⟩ := key
  exact ⟨t, key (fun v hv => absurd hv (Nat.not_lt_zero v))⟩
def gch (near : Nat) : Nat := ((1 : Int32) <<< (((2 : Int32) * gbc (nI near)) &&& 31)).toNatClampNeg
theorem gch_ok : ∀ near : Fin 16, (1 : Int32) <<< (((2 : Int32) * gbc (nI near)) &&& 31) = nI (gch near) ∧ gch near ≤ 256 := by decide +kernel
theorem u_choices {near : Nat} {σ : gT} {k : Int32 → gT → Prop} (hn : near < 16) (h : k (nI (gch near)) σ) : wX4_choices (nI near) σ k := by
  unfold wX4_choices
  refine u_bc.mpr ?_
  rw [(gch_ok ⟨near, hn⟩).1]
  exact h
set_option maxHeartbeats 1000000 in
theorem u_pick {near s i K : Nat} {V : Nat → Int32} {σ : gT} {k : Int32 → gT → Prop} (hn : near < 16) (hi : i + 4 ≤ 64) (hK : K < 2 ^ 31) (hV : ∀ u, u < 4 → σ.1 21 s (i + u) = V u) (h : ∀ τ, gFR σ τ → k (gpick (fcf near (fV V)) (fun c => fN near c 4) (gch near) 0 K) τ) : wX4_pick (nI near) s (nI i) (nI K) σ k := by
  unfold wX4_pick
  have hc := (gch_ok ⟨near, hn⟩).2
  dsimp only at hc
  have key := gloop (N := gch near) (fun t c => ∀ (b : Nat) (ρ : gT), gFR σ ρ → b ≤ K → b ≤ c → (∀ τ, gFR σ τ → k (gpick (fcf near (fV V)) (fun c => fN near c 4) (gch near - c) c (K - b)) τ) → wX4_pick_6 k t (nI near) s (nI i) (nI K) (nI b) (nI c) ρ) (by
    intro b ρ hρ h1 h2 hk
    unfold wX4_pick_6
    rw [Nat.sub_self] at hk
    exact u_choices hn ⟨fun _ => hk ρ hρ, fun z => absurd (nI_le (Nat.le_refl _) (by omega)) z⟩) (by
    intro t c hcl ih b ρ hρ h1 h2 hk
    unfold wX4_pick_6 wX4_pick_46
    rw [nI_1, nI_1]
    refine u_choices hn ⟨fun z => absurd z (nI_ge hcl (by omega)), fun _ => u_spread hn hρ (fun τ t1 t2 t3 => u_sends (V := V) hi t2 (fun u hu => by rw [t1 21 (by decide) (by decide)]; exact hV u hu) ?_)⟩
    have e : gch near - c = (gch near - (c + 1)) + 1 := by omega
    rw [e] at hk
    have e2 : gpick (fcf near (fV V)) (fun c => fN near c 4) ((gch near - (c + 1)) + 1) c (K - b) = if fcf near (fV V) c = true then (if K - b = 0 then fN near c 4 else gpick (fcf near (fV V)) (fun c => fN near c 4) (gch near - (c + 1)) (c + 1) (K - b - 1)) else gpick (fcf near (fV V)) (fun c => fN near c 4) (gch near - (c + 1)) (c + 1) (K - b) := rfl
    rw [e2] at hk
    by_cases cf : fcf near (fV V) c = true
    · rw [if_pos cf] at hk ⊢
      refine ⟨fun z => absurd z (by decide), fun _ => ⟨fun c2 => ?_, fun c2 => ?_⟩⟩
      · have c3 : ¬ b = K := fun z => c2 (by rw [z])
        rw [if_neg (by omega), show K - b - 1 = K - (b + 1) by omega] at hk
        exact ih (b + 1) τ t1 (by omega) (by omega) hk
      · rw [nI_eq (by omega) hK] at c2
        rw [if_pos (by omega)] at hk
        rw [t3]
        exact hk τ t1
    · rw [if_neg cf] at hk ⊢
      exact ⟨fun _ => ih b τ t1 h1 (by omega) hk, fun z => absurd rfl z⟩)
  obtain ⟨t, key⟩ := key
  exact ⟨t, key 0 σ (fun _ _ _ => rfl) (Nat.zero_le _) (Nat.le_refl _) h⟩
set_option maxHeartbeats 1000000 in
theorem u_howN {near s i : Nat} {x4 : Int32} {V : Nat → Int32} {σ : gT} {k : Int32 → gT → Prop} (hn : near < 16) (hi : i + 4 ≤ 64) (hV : ∀ u, u < 4 → σ.1 21 s (i + u) = V u) (h : ∀ τ, gFR σ τ → (x4 = 0 → k (nI (gct (fcf near (fV V)) (gch near))) τ) ∧ (¬ x4 = 0 → (nI near = 0 → k (nI (gct (fcf near (fV V)) (gch near))) τ) ∧ (¬ nI near = 0 → ¬ (4 : Int32) = 0 ∧ k (nI (gct (fcf near (fV V)) (gch near)) / 4) τ))) : wX4_howMany (nI near) s (nI i) x4 σ k := by
  unfold wX4_howMany
  have hc := (gch_ok ⟨near, hn⟩).2
  dsimp only at hc
  have key := gloop (N := gch near) (fun t c => ∀ ρ : gT, gFR σ ρ → wX4_howMany_6 k t (nI near) s (nI i) x4 (nI (gct (fcf near (fV V)) c)) (nI c) ρ) (by
    intro ρ hρ
    unfold wX4_howMany_6 wX4_howMany_56
    exact u_choices hn ⟨fun _ => h ρ hρ, fun z => absurd (nI_le (Nat.le_refl _) (by omega)) z⟩) (by
    intro t c hcl ih ρ hρ
    rw [gct_s] at ih
    unfold wX4_howMany_6 wX4_howMany_34
    rw [nI_1, nI_1]
    refine u_choices hn ⟨fun z => absurd z (nI_ge hcl (by omega)), fun _ => u_spread hn hρ (fun τ t1 t2 t3 => u_sends (V := V) hi t2 (fun u hu => by rw [t1 21 (by decide) (by decide)]; exact hV u hu) ?_)⟩
    by_cases cf : fcf near (fV V) c = true
    · rw [if_pos cf] at ih ⊢
      exact ⟨fun z => absurd z (by decide), fun _ => ih τ t1⟩
    · rw [if_neg cf] at ih ⊢
      exact ⟨fun _ => ih τ t1, fun z => absurd rfl z⟩)
  obtain ⟨t, key⟩ := key
  exact ⟨t, key σ (fun _ _ _ => rfl)⟩
-- the finite facts
def fLr (near : Nat) : List Nat := (List.range 625).filter (fun r => decide (fS r 4 = nI near))
theorem f_rows : ∀ near : Fin 16, (List.range (gch near)).map (fun c => (fN near c 4, fV (fCr near c))) = (fLr near).map (fun r => (nI r, fV (fBr r))) := by decide +kernel
def fLa (near : Nat) : List (List Int32) := ((fLr near).filter (fun r => decide (¬ 2 ≤ fF r 4))).map (fun r => fV (fBr r))
theorem f_likes : ∀ near : Fin 15, ((fLr (near + 1)).map (fun r => fV (fBr r))).isPerm (fLa (near + 1) ++ fLa (near + 1) ++ fLa (near + 1) ++ fLa (near + 1)) = true := by decide +kernel
theorem f_dark : (fLr 0).filter (fun r => decide (¬ 2 ≤ fF r 4)) = fLr 0 := by decide +kernel
