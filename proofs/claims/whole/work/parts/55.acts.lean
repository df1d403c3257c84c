/-! PURE: what an act makes of the waves, on both sides -/
abbrev gWS : Type := (Nat → Nat → Int32) × (Nat → Nat → Int32) × Nat
def aA (v w x y s t : Nat) (R I : Nat → Nat → Int32) (q : Nat) : Int64 :=
  if v = 0 then (if q = x + 4 * y then (R w q).toInt64 + gtr (nI t) (nI s).toInt64 0 else (R w q).toInt64)
  else if v = 1 then (R w q).toInt64 + gtr (nI ((t + x * (q % 4) + y * (q / 4)) % 4)) (nI s).toInt64 0
  else if v = 2 then (if q = x + 4 * y then 0 else (R w q).toInt64)
  else if v = 3 then (if q = x + 4 * y then gtr (nI t) (R w q).toInt64 (I w q).toInt64 else (R w q).toInt64)
  else if v = 4 then (R w q).toInt64 + (R x q).toInt64
  else if v = 5 then gwA false (R w) (I w) q
  else 0
def aB (v w x y s t : Nat) (R I : Nat → Nat → Int32) (q : Nat) : Int64 :=
  if v = 0 then (if q = x + 4 * y then (I w q).toInt64 + gti (nI t) (nI s).toInt64 0 else (I w q).toInt64)
  else if v = 1 then (I w q).toInt64 + gti (nI ((t + x * (q % 4) + y * (q / 4)) % 4)) (nI s).toInt64 0
  else if v = 2 then (if q = x + 4 * y then 0 else (I w q).toInt64)
  else if v = 3 then (if q = x + 4 * y then gti (nI t) (R w q).toInt64 (I w q).toInt64 else (I w q).toInt64)
  else if v = 4 then (I w q).toInt64 + (I x q).toInt64
  else if v = 5 then gwB false (R w) (I w) q
  else 0
def gWB (R I : Nat → Nat → Int32) : Prop := ∀ w q, w < 8 → q < 16 → (-1000000 ≤ (R w q).toInt ∧ (R w q).toInt ≤ 1000000) ∧ (-1000000 ≤ (I w q).toInt ∧ (I w q).toInt ≤ 1000000)
noncomputable def aU (w : Nat) (A B : Nat → Int64) (S : gWS) : gWS := @ite _ (gfit A B) (Classical.propDecidable _) (fun a q => if a = w then (A q).toInt32 else S.1 a q, fun a q => if a = w then (B q).toInt32 else S.2.1 a q, S.2.2 + 1) S
theorem aU_y {w : Nat} {A B : Nat → Int64} {S : gWS} (h : gfit A B) : aU w A B S = (fun a q => if a = w then (A q).toInt32 else S.1 a q, fun a q => if a = w then (B q).toInt32 else S.2.1 a q, S.2.2 + 1) := if_pos h
theorem aU_n {w : Nat} {A B : Nat → Int64} {S : gWS} (h : ¬ gfit A B) : aU w A B S = S := if_neg h
def aS (a : Nat × List Nat) : Nat := if a.1 ≤ 1 then a.2.getD 3 0 else 0
def aT (a : Nat × List Nat) : Nat := if a.1 ≤ 1 then a.2.getD 4 0 else if a.1 = 3 then a.2.getD 3 0 else 0
noncomputable def aD (a : Nat × List Nat) (S : gWS) : gWS := aU (a.2.getD 0 0) (aA a.1 (a.2.getD 0 0) (a.2.getD 1 0) (a.2.getD 2 0) (aS a) (aT a) S.1 S.2.1) (aB a.1 (a.2.getD 0 0) (a.2.getD 1 0) (a.2.getD 2 0) (aS a) (aT a) S.1 S.2.1) S
/-- an act as it is told: its word and how many numbers, each as great as it may be -/
def aOk (a : Nat × List Nat) : Prop := a.1 < 7 ∧ a.2.length = (mo a.1).length ∧ ∀ i, i < (mo a.1).length → a.2.getD i 0 ≤ (mo a.1).getD i 0
theorem t64 {x : Int32} (h : -1000000 ≤ x.toInt ∧ x.toInt ≤ 1000000) : -((1000000 : Nat) : Int) ≤ x.toInt64.toInt ∧ x.toInt64.toInt ≤ ((1000000 : Nat) : Int) := i32_bd (M := 1000000) h
theorem add_bd {x y : Int64} (hx : -((1000000 : Nat) : Int) ≤ x.toInt ∧ x.toInt ≤ ((1000000 : Nat) : Int)) (hy : -((1000000 : Nat) : Int) ≤ y.toInt ∧ y.toInt ≤ ((1000000 : Nat) : Int)) : -9000000000000000000 ≤ (x + y).toInt := by
  rw [Int64.toInt_add, Int.bmod_def]
  omega
theorem le_bd {x : Int64} (hx : -((1000000 : Nat) : Int) ≤ x.toInt ∧ x.toInt ≤ ((1000000 : Nat) : Int)) : -9000000000000000000 ≤ x.toInt := by omega
set_option maxHeartbeats 1000000 in
theorem aAB_sm {v w x y s t : Nat} {R I : Nat → Nat → Int32} (hB : gWB R I) (hw : w < 8) (hx : x < 8) (hs : s ≤ 1000) : gsm (aA v w x y s t R I) (aB v w x y s t R I) := by
  intro q hq
  obtain ⟨r1, r2⟩ := hB w q hw hq
  obtain ⟨x1, x2⟩ := hB x q hx hq
  have r1 := t64 r1
  have r2 := t64 r2
  have x1 := t64 x1
  have x2 := t64 x2
  have hs1 : -((1000000 : Nat) : Int) ≤ (nI s).toInt64.toInt ∧ (nI s).toInt64.toInt ≤ ((1000000 : Nat) : Int) := t64 (by rw [nI_toInt (by omega)]; omega)
  have z0 : -((1000000 : Nat) : Int) ≤ (0 : Int64).toInt ∧ (0 : Int64).toInt ≤ ((1000000 : Nat) : Int) := by decide
  unfold aA aB
  by_cases c0 : v = 0
  · simp only [if_pos c0]
    have g := gtr_bd (t := nI t) (M := 1000000) (by decide) hs1 z0
    by_cases c : q = x + 4 * y
    · simp only [if_pos c]; exact ⟨add_bd r1 g.1, add_bd r2 g.2⟩
    · simp only [if_neg c]; exact ⟨le_bd r1, le_bd r2⟩
  simp only [if_neg c0]
  by_cases c1 : v = 1
  · simp only [if_pos c1]
    have g := gtr_bd (t := nI ((t + x * (q % 4) + y * (q / 4)) % 4)) (M := 1000000) (by decide) hs1 z0
    exact ⟨add_bd r1 g.1, add_bd r2 g.2⟩
  simp only [if_neg c1]
  by_cases c2 : v = 2
  · simp only [if_pos c2]
    by_cases c : q = x + 4 * y
    · simp only [if_pos c]; exact ⟨le_bd z0, le_bd z0⟩
    · simp only [if_neg c]; exact ⟨le_bd r1, le_bd r2⟩
  simp only [if_neg c2]
  by_cases c3 : v = 3
  · simp only [if_pos c3]
    have g := gtr_bd (t := nI t) (M := 1000000) (by decide) r1 r2
    by_cases c : q = x + 4 * y
    · simp only [if_pos c]; exact ⟨le_bd g.1, le_bd g.2⟩
    · simp only [if_neg c]; exact ⟨le_bd r1, le_bd r2⟩
  simp only [if_neg c3]
  by_cases c4 : v = 4
  · simp only [if_pos c4]; exact ⟨add_bd r1 x1, add_bd r2 x2⟩
  simp only [if_neg c4]
  by_cases c5 : v = 5
  · simp only [if_pos c5]
    unfold gwA gwB
    have hb : ∀ j, j < 16 → (-((1000000 : Nat) : Int) ≤ (gtr (gwT false q j) (R w j).toInt64 (I w j).toInt64).toInt ∧ (gtr (gwT false q j) (R w j).toInt64 (I w j).toInt64).toInt ≤ ((1000000 : Nat) : Int)) ∧ (-((1000000 : Nat) : Int) ≤ (gti (gwT false q j) (R w j).toInt64 (I w j).toInt64).toInt ∧ (gti (gwT false q j) (R w j).toInt64 (I w j).toInt64).toInt ≤ ((1000000 : Nat) : Int)) := fun j hj => gtr_bd (M := 1000000) (by decide) (t64 (hB w j hw hj).1) (t64 (hB w j hw hj).2)
    have s1 := gsum_bd (n := 16) (M := 1000000) (by decide) (by decide) (fun j hj => (hb j hj).1)
    have s2 := gsum_bd (n := 16) (M := 1000000) (by decide) (by decide) (fun j hj => (hb j hj).2)
    have e : ((16 * 1000000 : Nat) : Int) = 16000000 := by decide
    exact ⟨by omega, by omega⟩
  simp only [if_neg c5]
  exact ⟨le_bd z0, le_bd z0⟩
set_option maxHeartbeats 1000000 in
theorem aU_wb {w : Nat} {A B : Nat → Int64} {S : gWS} (h : gWB S.1 S.2.1) : gWB (aU w A B S).1 (aU w A B S).2.1 := by
  have key : ∀ x : Int64, -1000000 ≤ x.toInt → x.toInt ≤ 1000000 → x.toInt32.toInt = x.toInt := by
    intro x h1 h2
    rw [Int64.toInt_toInt32, Int.bmod_def]
    omega
  by_cases c : gfit A B
  · rw [aU_y c]
    intro a q ha hq
    dsimp only
    by_cases e : a = w
    · rw [if_pos e, if_pos e]
      obtain ⟨⟨a1, a2⟩, b1, b2⟩ := c q hq
      rw [key _ a1 a2, key _ b1 b2]
      exact ⟨⟨a1, a2⟩, b1, b2⟩
    · rw [if_neg e, if_neg e]
      exact h a q ha hq
  · rw [aU_n c]; exact h
-- two rows of longs
def gD (f g : Nat) (σ ρ : gT) (A B : Nat → Int64) : Prop := ρ.1 = σ.1 ∧ ∀ q, q < 16 → ρ.2 f 0 q = A q ∧ ρ.2 g 0 q = B q
theorem gD.set {f g : Nat} {σ ρ : gT} {A B A' B' : Nat → Int64} {p : Nat} {a c : Int64} (h : gD f g σ ρ A B) (hf : f ≠ g) (h1 : ∀ q, q < 16 → A' q = if q = p then a else A q) (h2 : ∀ q, q < 16 → B' q = if q = p then c else B q) : gD f g σ (gsl (gsl ρ f 0 p a) g 0 p c) A' B' := by
  refine ⟨h.1, fun q hq => ?_⟩
  rw [h1 q hq, h2 q hq]
  by_cases e : q = p
  · subst e
    rw [if_pos rfl, if_pos rfl, gsl_e, gsl_g hf, gsl_e]
    exact ⟨rfl, rfl⟩
  · rw [if_neg e, if_neg e, gsl_s e, gsl_s e, gsl_s e, gsl_s e]
    exact h.2 q hq
theorem gD.cg {f g : Nat} {σ ρ : gT} {A B A' B' : Nat → Int64} (h : gD f g σ ρ A B) (h1 : ∀ q, q < 16 → A' q = A q ∧ B' q = B q) : gD f g σ ρ A' B' := ⟨h.1, fun q hq => by rw [(h1 q hq).1, (h1 q hq).2]; exact h.2 q hq⟩
theorem gD.of {f g : Nat} {σ ρ : gT} {A B : Nat → Int64} (hf : f ≠ g) (h : ρ.1 = σ.1) : gD f g σ (gd2 ρ f g A B 16) A B := ⟨h, fun q hq => gd2_at hf hq⟩
def gW9 (S : gWS) (τ : gT) : Prop := ∀ w q, w < 8 → q < 16 → τ.1 23 w q = S.1 w q ∧ τ.1 24 w q = S.2.1 w q
def gW10 (S : gWS) (τ : gT) : Prop := ∀ w q, w < 8 → q < 16 → τ.1 31 0 (16 * w + q) = S.1 w q ∧ τ.1 32 0 (16 * w + q) = S.2.1 w q
/-- the end of the class's act -/
theorem u_fin {w : Nat} {S : gWS} {A B : Nat → Int64} {σ ρ : gT} {k : Int32 → gT → Prop} (hw : w < 8) (hS : gW9 S σ) (hm : gsm A B) (hD : gD 12 13 σ ρ A B) (h : ∀ d τ', (∀ a, a ≠ 23 → a ≠ 24 → τ'.1 a = σ.1 a) → gW9 (aU w A B S) τ' → ((d = 1 ∧ (aU w A B S).2.2 = S.2.2 + 1) ∨ (d = 0 ∧ (aU w A B S).2.2 = S.2.2)) → k d τ') : wX9_perform_202 k w ρ := by
  unfold wX9_perform_202
  refine u_settle (A := A) (B := B) hD.2 hm (fun hf => ⟨Or.inr rfl, h 1 _ (fun a a1 a2 => ?_) (fun a q ha hq => ?_) (Or.inl ⟨rfl, by rw [aU_y hf]⟩)⟩) (fun hf => ⟨Or.inl rfl, h 0 _ (fun a a1 a2 => by rw [hD.1]) ?_ (Or.inr ⟨rfl, by rw [aU_n hf]⟩)⟩)
  · funext b c
    rw [gw9_f a1 a2, hD.1]
  · rw [gw9_23 hq, gw9_24 hq, hD.1, aU_y hf, (hS a q ha hq).1, (hS a q ha hq).2]
    exact ⟨rfl, rfl⟩
  · rw [aU_n hf]
    intro a q ha hq
    rw [hD.1]
    exact hS a q ha hq
set_option maxHeartbeats 1000000 in
/-- the end of the model's act -/
theorem v_fin {w : Nat} {S : gWS} {A B : Nat → Int64} {σ ρ : gT} {k : gT → Prop} (hw : w < 8) (hS : gW10 S σ) (hc : σ.1 10 0 20 = nI S.2.2) (hD : gD 33 34 σ ρ A B) (h : ∀ τ', (∀ a, a ≠ 10 → a ≠ 31 → a ≠ 32 → τ'.1 a = σ.1 a) → (∀ c, c ≠ 20 → τ'.1 10 0 c = σ.1 10 0 c) → gW10 (aU w A B S) τ' → τ'.1 10 0 20 = nI (aU w A B S).2.2 → k τ') : wX10_act_392 k (nI w) ρ := by
  unfold wX10_act_392
  have hc2 : ρ.1 10 0 20 = nI S.2.2 := by rw [hD.1]; exact hc
  rw [hc2, nI_0r, nI_1]
  refine v_isMade (A := A) (B := B) hw hD.2 (fun hf => ⟨fun z => absurd z (by decide), fun _ => h _ (fun a a1 a2 a3 => ?_) (fun c c1 => ?_) (fun a q ha hq => ?_) (by rw [gsu_e, aU_y hf])⟩) (fun hf => ⟨fun _ => h _ (fun a a1 a2 a3 => ?_) (fun c c1 => ?_) (fun a q ha hq => ?_) (by rw [gsu_e, aU_n hf]), fun z => absurd rfl z⟩)
  · funext b c
    rw [gsu_f a1, gw10_f a2 a3, hD.1]
  · rw [gsu_s c1, gw10_f (by decide) (by decide), hD.1]
  · rw [gsu_f (by decide), gsu_f (by decide), gw10_31 hq, gw10_32 hq, hD.1, aU_y hf, (hS a q ha hq).1, (hS a q ha hq).2]
    exact ⟨rfl, rfl⟩
  · rw [gsu_fam a1, hD.1]
  · rw [gsu_s c1, hD.1]
  · rw [gsu_f (by decide), gsu_f (by decide), hD.1, aU_n hf]
    exact hS a q ha hq
-- the class's loops
set_option maxHeartbeats 1000000 in
theorem u_start {w : Nat} {σ : gT} {k : gT → Prop} (h : ∀ ρ, gD 12 13 σ ρ (fun q => (σ.1 23 w q).toInt64) (fun q => (σ.1 24 w q).toInt64) → k ρ) : wX1_start w σ k := by
  unfold wX1_start
  obtain ⟨n, key⟩ := gloop (N := 16) (fun t j => wX1_start_2 k t w (nI j) (gd2 σ 12 13 (fun q => (σ.1 23 w q).toInt64) (fun q => (σ.1 24 w q).toInt64) j)) (by
    unfold wX1_start_2
    exact ⟨fun _ => h _ (gD.of (by decide) rfl), fun z => absurd (by decide) z⟩) (by
    intro t j hj ih
    have v : vp_in (nI j) 16 := vp_in_nI hj (by decide)
    unfold wX1_start_2 wX1_put
    rw [nI_1, nI_clamp (show j < 2 ^ 31 by omega)]
    refine ⟨fun z => absurd z (nI_ge (b := 16) hj (by decide)), fun _ => ⟨v, v, v, v, ?_⟩⟩
    rw [gd2_1, gd2_1]
    have e := gd2_s (σ := σ) (f := 12) (f2 := 13) (n := j) (A := fun q => (σ.1 23 w q).toInt64) (B := fun q => (σ.1 24 w q).toInt64) (by decide)
    rw [e]
    exact ih)
  rw [gd2_0] at key
  exact ⟨n, key⟩
theorem lean_c : ∀ t : Fin 4, ∀ x : Fin 4, ∀ y : Fin 4, ∀ q : Fin 16, (nI t + (((nI x * (nI q &&& (3 : Int32))) + (nI y * (nI q >>> ((2 : Int32) &&& (31 : Int32))))) &&& (3 : Int32))) &&& (3 : Int32) = nI (((t : Nat) + x * (q % 4) + y * (q / 4)) % 4) := by decide +kernel
theorem lean_m : ∀ t : Fin 4, ∀ x : Fin 4, ∀ y : Fin 4, ∀ q : Fin 16, (((nI t + (nI x * (nI q - nI q / (4 : Int32) * (4 : Int32)))) + (nI y * (nI q / (4 : Int32)))) - ((nI t + (nI x * (nI q - nI q / (4 : Int32) * (4 : Int32)))) + (nI y * (nI q / (4 : Int32)))) / (4 : Int32) * (4 : Int32)) = nI (((t : Nat) + x * (q % 4) + y * (q / 4)) % 4) := by decide +kernel
set_option maxHeartbeats 1000000 in
theorem u_plane {x y s t : Nat} {A B : Nat → Int64} {σ ρ : gT} {k : gT → Prop} (hx : x < 4) (hy : y < 4) (ht : t < 4) (hD : gD 12 13 σ ρ A B) (h : ∀ ρ', gD 12 13 σ ρ' (fun q => A q + gtr (nI ((t + x * (q % 4) + y * (q / 4)) % 4)) (nI s).toInt64 0) (fun q => B q + gti (nI ((t + x * (q % 4) + y * (q / 4)) % 4)) (nI s).toInt64 0) → k ρ') : wX1_addPlane (nI x) (nI y) (nI s) (nI t) ρ k := by
  unfold wX1_addPlane
  have key := gloop (N := 16) (fun m j => ∀ ρ', gD 12 13 σ ρ' (fun q => if q < j then A q + gtr (nI ((t + x * (q % 4) + y * (q / 4)) % 4)) (nI s).toInt64 0 else A q) (fun q => if q < j then B q + gti (nI ((t + x * (q % 4) + y * (q / 4)) % 4)) (nI s).toInt64 0 else B q) → wX1_addPlane_3 k m (nI x) (nI y) (nI s) (nI t) (nI j) ρ') (by
    intro ρ' hD'
    unfold wX1_addPlane_3
    exact ⟨fun _ => h ρ' (hD'.cg (fun q hq => by rw [if_pos hq, if_pos hq]; exact ⟨rfl, rfl⟩)), fun z => absurd (by decide) z⟩) (by
    intro m j hj ih ρ' hD'
    unfold wX1_addPlane_3 wX9_lean
    have e := lean_c ⟨t, ht⟩ ⟨x, hx⟩ ⟨y, hy⟩ ⟨j, hj⟩
    dsimp only at e
    dsimp only
    rw [e, nI_1]
    have d1 := (hD'.2 j hj).1
    have d2 := (hD'.2 j hj).2
    dsimp only at d1 d2
    rw [if_neg (Nat.lt_irrefl j)] at d1 d2
    refine ⟨fun z => absurd z (nI_ge (b := 16) hj (by decide)), fun _ => u_addT hj (ih _ (hD'.set (by decide) (fun q hq => ?_) (fun q hq => ?_)))⟩
    · rw [d1]
      by_cases z : q = j
      · subst z; rw [if_pos (by omega), if_pos rfl]
      · rw [if_neg z]
        by_cases y2 : q < j
        · rw [if_pos (by omega), if_pos y2]
        · rw [if_neg (by omega), if_neg y2]
    · rw [d2]
      by_cases z : q = j
      · subst z; rw [if_pos (by omega), if_pos rfl]
      · rw [if_neg z]
        by_cases y2 : q < j
        · rw [if_pos (by omega), if_pos y2]
        · rw [if_neg (by omega), if_neg y2])
  obtain ⟨m, key⟩ := key
  exact ⟨m, key ρ (hD.cg (fun q _ => ⟨if_neg (Nat.not_lt_zero q), if_neg (Nat.not_lt_zero q)⟩))⟩
theorem gtr0 (a b : Int64) : gtr 0 a b = a ∧ gti 0 a b = b := ⟨if_pos rfl, if_pos rfl⟩
set_option maxHeartbeats 1000000 in
theorem u_addW {x : Nat} {A B : Nat → Int64} {σ ρ : gT} {k : gT → Prop} (hD : gD 12 13 σ ρ A B) (h : ∀ ρ', gD 12 13 σ ρ' (fun q => A q + (σ.1 23 x q).toInt64) (fun q => B q + (σ.1 24 x q).toInt64) → k ρ') : wX1_addWave x ρ k := by
  unfold wX1_addWave
  have key := gloop (N := 16) (fun m j => ∀ ρ', gD 12 13 σ ρ' (fun q => if q < j then A q + (σ.1 23 x q).toInt64 else A q) (fun q => if q < j then B q + (σ.1 24 x q).toInt64 else B q) → wX1_addWave_2 k m x (nI j) ρ') (by
    intro ρ' hD'
    unfold wX1_addWave_2
    exact ⟨fun _ => h ρ' (hD'.cg (fun q hq => by rw [if_pos hq, if_pos hq]; exact ⟨rfl, rfl⟩)), fun z => absurd (by decide) z⟩) (by
    intro m j hj ih ρ' hD'
    have v : vp_in (nI j) 16 := vp_in_nI hj (by decide)
    unfold wX1_addWave_2
    rw [nI_1, nI_clamp (show j < 2 ^ 31 by omega), hD'.1]
    refine ⟨fun z => absurd z (nI_ge (b := 16) hj (by decide)), fun _ => ⟨v, v, u_addT hj ?_⟩⟩
    rw [(gtr0 _ _).1, (gtr0 _ _).2]
    have d1 := (hD'.2 j hj).1
    have d2 := (hD'.2 j hj).2
    dsimp only at d1 d2
    rw [if_neg (Nat.lt_irrefl j)] at d1 d2
    refine ih _ (hD'.set (by decide) (fun q hq => ?_) (fun q hq => ?_))
    · rw [d1]
      by_cases z : q = j
      · subst z; rw [if_pos (by omega), if_pos rfl]
      · rw [if_neg z]
        by_cases y2 : q < j
        · rw [if_pos (by omega), if_pos y2]
        · rw [if_neg (by omega), if_neg y2]
    · rw [d2]
      by_cases z : q = j
      · subst z; rw [if_pos (by omega), if_pos rfl]
      · rw [if_neg z]
        by_cases y2 : q < j
        · rw [if_pos (by omega), if_pos y2]
        · rw [if_neg (by omega), if_neg y2])
  obtain ⟨m, key⟩ := key
  exact ⟨m, key ρ (hD.cg (fun q _ => ⟨if_neg (Nat.not_lt_zero q), if_neg (Nat.not_lt_zero q)⟩))⟩
