/-! PURE: the way there and back -/
theorem gd2_gd2 {σ : gT} {f f2 n : Nat} {A B A0 B0 : Nat → Int64} : gd2 (gd2 σ f f2 A0 B0 n) f f2 A B n = gd2 σ f f2 A B n := by
  refine Prod.ext rfl ?_
  funext a b c
  unfold gd2
  dsimp only
  by_cases h1 : a = f ∧ b = 0 ∧ c < n
  · simp only [if_pos h1]
  · by_cases h2 : a = f2 ∧ b = 0 ∧ c < n
    · simp only [if_neg h1, if_pos h2]
    · simp only [if_neg h1, if_neg h2]
set_option maxHeartbeats 1000000 in
theorem gd1_s {σ : gT} {f n : Nat} {A : Nat → Int64} : gsl (gd2 σ f f A A n) f 0 n (A n) = gd2 σ f f A A (n + 1) := by
  refine Prod.ext rfl ?_
  funext a b c
  rw [gsl_2]
  unfold gd2
  dsimp only
  by_cases h1 : a = f ∧ b = 0 ∧ c = n
  · rw [if_pos h1, if_pos ⟨h1.1, h1.2.1, by omega⟩, h1.2.2]
  · rw [if_neg h1]
    by_cases h2 : a = f ∧ b = 0 ∧ c < n
    · rw [if_pos h2, if_pos ⟨h2.1, h2.2.1, by omega⟩]
    · have h3 : ¬ (a = f ∧ b = 0 ∧ c < n + 1) := fun ⟨z1, z2, z3⟩ => by
        by_cases z4 : c = n
        · exact h1 ⟨z1, z2, z4⟩
        · exact h2 ⟨z1, z2, by omega⟩
      simp only [if_neg h2, if_neg h3]
theorem gd11 {σ : gT} {f f2 n : Nat} {A B : Nat → Int64} (hf : f ≠ f2) : gd2 (gd2 σ f f A A n) f2 f2 B B n = gd2 σ f f2 A B n := by
  refine Prod.ext rfl ?_
  funext a b c
  unfold gd2
  dsimp only
  by_cases h1 : a = f ∧ b = 0 ∧ c < n
  · have h2 : ¬ (a = f2 ∧ b = 0 ∧ c < n) := fun z => hf (h1.1.symm.trans z.1)
    simp only [if_pos h1, if_neg h2]
  · by_cases h2 : a = f2 ∧ b = 0 ∧ c < n
    · simp only [if_neg h1, if_pos h2]
    · simp only [if_neg h1, if_neg h2]
theorem gsl_id {σ : gT} {f i j : Nat} {x : Int64} (h : σ.2 f i j = x) : gsl σ f i j x = σ := by
  refine Prod.ext rfl ?_
  funext a b c
  rw [gsl_2]
  by_cases h1 : a = f ∧ b = i ∧ c = j
  · rw [if_pos h1, h1.1, h1.2.1, h1.2.2, h]
  · rw [if_neg h1]
theorem gsl4 {σ : gT} {f f2 i j : Nat} {x y x' y' : Int64} (hf : f ≠ f2) : gsl (gsl (gsl (gsl σ f i j x) f2 i j y) f i j x') f2 i j y' = gsl (gsl σ f i j x') f2 i j y' := by
  refine Prod.ext rfl ?_
  funext a b c
  simp only [gsl_2]
  by_cases h1 : a = f2 ∧ b = i ∧ c = j
  · simp only [if_pos h1]
  · by_cases h2 : a = f ∧ b = i ∧ c = j
    · simp only [if_neg h1, if_pos h2]
    · simp only [if_neg h1, if_neg h2]
set_option maxHeartbeats 1000000 in
theorem u_darken {σ : gT} {k : gT → Prop} (h : k (gd2 σ 12 13 (fun _ => 0) (fun _ => 0) 16)) : wX1_darken σ k := by
  unfold wX1_darken wJ7_fill_d0a16_f12 wJ7_fill_d0a16_f13
  have l12 := gloop (N := 16) (fun m j => wJ7_fill_d0a16_f12_6 (fun s1 => ∃ n, wJ7_fill_d0a16_f13_6 (fun s2 => k s2) n 0 0 16 s1) m 0 (nI j) 16 (gd2 σ 12 12 (fun _ => 0) (fun _ => 0) j)) (by
    unfold wJ7_fill_d0a16_f12_6
    refine ⟨fun _ => ?_, fun z => absurd (by decide) z⟩
    have l13 := gloop (N := 16) (fun m j => wJ7_fill_d0a16_f13_6 (fun s2 => k s2) m 0 (nI j) 16 (gd2 (gd2 σ 12 12 (fun _ => 0) (fun _ => 0) 16) 13 13 (fun _ => 0) (fun _ => 0) j)) (by
      unfold wJ7_fill_d0a16_f13_6
      refine ⟨fun _ => ?_, fun z => absurd (by decide) z⟩
      rw [gd11 (by decide)]
      exact h) (by
      intro n j hj hn
      unfold wJ7_fill_d0a16_f13_6
      rw [nI_clamp (show j < 2 ^ 31 by omega), nI_1]
      refine ⟨fun z => absurd z (nI_ge (b := 16) hj (by decide)), fun _ => ⟨vp_in_nI hj (by decide), ?_⟩⟩
      rw [← gd1_s] at hn
      exact hn)
    simp only [gd2_0] at l13
    exact l13) (by
    intro n j hj hn
    unfold wJ7_fill_d0a16_f12_6
    rw [nI_clamp (show j < 2 ^ 31 by omega), nI_1]
    refine ⟨fun z => absurd z (nI_ge (b := 16) hj (by decide)), fun _ => ⟨vp_in_nI hj (by decide), ?_⟩⟩
    rw [← gd1_s] at hn
    exact hn)
  simp only [gd2_0] at l12
  exact l12
theorem u_addT {q : Nat} {y z : Int64} {t : Int32} {σ : gT} {k : gT → Prop} (hq : q < 16) (h : k (gsl (gsl σ 12 0 q (σ.2 12 0 q + gtr t y z)) 13 0 q (σ.2 13 0 q + gti t y z))) : wX1_addTurned (nI q) y z t σ k := by
  have v : vp_in (nI q) 16 := vp_in_nI hq (by decide)
  unfold wX1_addTurned
  rw [nI_clamp (show q < 2 ^ 31 by omega)]
  refine ⟨v, u_tRe.mpr ⟨v, v, u_tIm.mpr ⟨v, ?_⟩⟩⟩
  rw [gsl_g (by decide)]
  exact h
/-- the turn that the way from place n to place f has; back: the other way round -/
def gwT (b : Bool) (f n : Nat) : Int32 := if b = true then nI ((4 - ((f % 4) * (n % 4) + (f / 4) * (n / 4)) % 4) % 4) else nI (((f % 4) * (n % 4) + (f / 4) * (n / 4)) % 4)
theorem gwT_c0 : ∀ f : Fin 16, ∀ n : Fin 16, (((nI f &&& (3 : Int32)) * (nI n &&& (3 : Int32))) + ((nI f >>> ((2 : Int32) &&& (31 : Int32))) * (nI n >>> ((2 : Int32) &&& (31 : Int32))))) &&& (3 : Int32) = gwT false f n := by decide +kernel
theorem gwT_c1 : ∀ f : Fin 16, ∀ n : Fin 16, (-((((nI f &&& (3 : Int32)) * (nI n &&& (3 : Int32))) + ((nI f >>> ((2 : Int32) &&& (31 : Int32))) * (nI n >>> ((2 : Int32) &&& (31 : Int32))))) &&& (3 : Int32))) &&& (3 : Int32) = gwT true f n := by decide +kernel
theorem gwT_m0 : ∀ f : Fin 16, ∀ n : Fin 16, ((((nI f - nI f / (4 : Int32) * (4 : Int32)) * (nI n - nI n / (4 : Int32) * (4 : Int32))) + ((nI f / (4 : Int32)) * (nI n / (4 : Int32)))) - (((nI f - nI f / (4 : Int32) * (4 : Int32)) * (nI n - nI n / (4 : Int32) * (4 : Int32))) + ((nI f / (4 : Int32)) * (nI n / (4 : Int32)))) / (4 : Int32) * (4 : Int32)) = gwT false f n := by decide +kernel
theorem gwT_m1 : ∀ f : Fin 16, ∀ n : Fin 16, (4 : Int32) - gwT false f n - ((4 : Int32) - gwT false f n) / (4 : Int32) * (4 : Int32) = gwT true f n := by decide +kernel
def gwA (b : Bool) (re im : Nat → Int32) (f : Nat) : Int64 := gsum (fun n => gtr (gwT b f n) (re n).toInt64 (im n).toInt64) 16
def gwB (b : Bool) (re im : Nat → Int32) (f : Nat) : Int64 := gsum (fun n => gti (gwT b f n) (re n).toInt64 (im n).toInt64) 16
set_option maxHeartbeats 1000000 in
theorem u_sendOn {w : Nat} {b : Bool} {how : Int32} {σ : gT} {k : gT → Prop} (hb : (how = 0 ∧ b = false) ∨ (¬ how = 0 ∧ b = true)) (h : k (gd2 σ 12 13 (gwA b (σ.1 23 w) (σ.1 24 w)) (gwB b (σ.1 23 w) (σ.1 24 w)) 16)) : wX1_sendOn w how σ k := by
  unfold wX1_sendOn
  refine u_darken ?_
  generalize hD : gd2 σ 12 13 (fun _ => 0) (fun _ => 0) 16 = D
  generalize hA : gwA b (σ.1 23 w) (σ.1 24 w) = A at h
  generalize hB : gwB b (σ.1 23 w) (σ.1 24 w) = B at h
  have e1 : ∀ a b c, D.1 a b c = σ.1 a b c := fun a b c => by rw [← hD]; rfl
  have e2 : ∀ q, q < 16 → D.2 12 0 q = 0 ∧ D.2 13 0 q = 0 := fun q hq => by rw [← hD]; exact gd2_at (by decide) hq
  have key := gloop (N := 16) (fun m f => wX1_sendOn_6 k m w how (nI f) (gd2 D 12 13 A B f)) (by
    unfold wX1_sendOn_6
    refine ⟨fun _ => ?_, fun z => absurd (by decide) z⟩
    rw [← hD, gd2_gd2]
    exact h) (by
    intro n f hf hn
    unfold wX1_sendOn_6
    refine ⟨fun z => absurd z (nI_ge (b := 16) hf (by decide)), fun _ => ?_⟩
    rw [← gd2_s (by decide)] at hn
    have inner := gloop (N := 16) (fun m j => wX1_sendOn_15 (wX1_sendOn_6 k n) k m w how (nI f) (nI j) (gsl (gsl (gd2 D 12 13 A B f) 12 0 f (gsum (fun n => gtr (gwT b f n) (σ.1 23 w n).toInt64 (σ.1 24 w n).toInt64) j)) 13 0 f (gsum (fun n => gti (gwT b f n) (σ.1 23 w n).toInt64 (σ.1 24 w n).toInt64) j))) (by
      unfold wX1_sendOn_15
      rw [nI_1]
      refine ⟨fun _ => ?_, fun z => absurd (by decide) z⟩
      rw [← hA, ← hB] at hn
      rw [← hA, ← hB]
      exact hn) (by
      intro m j hj hm
      unfold wX1_sendOn_15 wX1_sendOn_67 wX9_lean
      have v : vp_in (nI j) 16 := vp_in_nI hj (by decide)
      rw [nI_1 f, nI_1 j, nI_clamp (show j < 2 ^ 31 by omega), gwT_c0 ⟨f, hf⟩ ⟨j, hj⟩]
      refine ⟨fun z => absurd z (nI_ge (b := 16) hj (by decide)), fun _ => ⟨v, v, ?_⟩⟩
      have hr : ∀ g : Nat, (gsl (gsl (gd2 D 12 13 A B f) 12 0 f (gsum (fun n => gtr (gwT b f n) (σ.1 23 w n).toInt64 (σ.1 24 w n).toInt64) j)) 13 0 f (gsum (fun n => gti (gwT b f n) (σ.1 23 w n).toInt64 (σ.1 24 w n).toInt64) j)).1 g w j = σ.1 g w j := fun g => e1 _ _ _
      rw [hr, hr]
      rcases hb with ⟨b1, b2⟩ | ⟨b1, b2⟩
      · refine ⟨fun z => absurd b1 z, fun _ => u_addT hf ?_⟩
        rw [gsl4 (by decide), gsl_g (by decide), gsl_e, gsl_e]
        subst b2
        exact hm
      · refine ⟨fun _ => ?_, fun z => absurd z b1⟩
        have e := gwT_c1 ⟨f, hf⟩ ⟨j, hj⟩
        rw [gwT_c0 ⟨f, hf⟩ ⟨j, hj⟩] at e
        rw [e]
        refine u_addT hf ?_
        rw [gsl4 (by decide), gsl_g (by decide), gsl_e, gsl_e]
        subst b2
        exact hm)
    obtain ⟨m, hm⟩ := inner
    refine ⟨m, ?_⟩
    have z12 : (gd2 D 12 13 A B f).2 12 0 f = 0 := by
      unfold gd2
      dsimp only
      rw [if_neg (by omega), if_neg (by omega)]
      exact (e2 f hf).1
    have z13 : (gd2 D 12 13 A B f).2 13 0 f = 0 := by
      unfold gd2
      dsimp only
      rw [if_neg (by omega), if_neg (by omega)]
      exact (e2 f hf).2
    have hm2 := hm
    rw [show gsum (fun n => gtr (gwT b f n) (σ.1 23 w n).toInt64 (σ.1 24 w n).toInt64) 0 = 0 from rfl, show gsum (fun n => gti (gwT b f n) (σ.1 23 w n).toInt64 (σ.1 24 w n).toInt64) 0 = 0 from rfl, gsl_id z12, gsl_id z13] at hm2
    exact hm2)
  rw [gd2_0] at key
  exact key
set_option maxHeartbeats 1000000 in
theorem v_goWay {w : Nat} {b : Bool} {how : Int32} {re im : Nat → Int32} {σ : gT} {k : gT → Prop} (hw : w < 8) (hb : (how = 0 ∧ b = false) ∨ (¬ how = 0 ∧ b = true)) (hr : ∀ q, q < 16 → σ.1 31 0 (16 * w + q) = re q ∧ σ.1 32 0 (16 * w + q) = im q) (h : k (gd2 σ 33 34 (gwA b re im) (gwB b re im) 16)) : wX10_goWay (nI w) how σ k := by
  unfold wX10_goWay
  generalize hA : gwA b re im = A at h
  generalize hB : gwB b re im = B at h
  have key := gloop (N := 16) (fun m f => wX10_goWay_2 k m (nI w) how (nI f) (gd2 σ 33 34 A B f)) (by
    unfold wX10_goWay_2
    exact ⟨fun _ => h, fun z => absurd (by decide) z⟩) (by
    intro n f hf hn
    have vf : vp_in (nI f) 16 := vp_in_nI hf (by decide)
    unfold wX10_goWay_2
    rw [nI_clamp (show f < 2 ^ 31 by omega)]
    refine ⟨fun z => absurd z (nI_ge (b := 16) hf (by decide)), fun _ => ⟨vf, vf, ?_⟩⟩
    rw [← gd2_s (by decide)] at hn
    have inner := gloop (N := 16) (fun m j => wX10_goWay_25 (wX10_goWay_2 k n) k m (nI w) how (nI f) (nI j) (gsl (gsl (gd2 σ 33 34 A B f) 33 0 f (gsum (fun n => gtr (gwT b f n) (re n).toInt64 (im n).toInt64) j)) 34 0 f (gsum (fun n => gti (gwT b f n) (re n).toInt64 (im n).toInt64) j))) (by
      unfold wX10_goWay_25
      rw [nI_1]
      refine ⟨fun _ => ?_, fun z => absurd (by decide) z⟩
      rw [← hA, ← hB] at hn
      rw [← hA, ← hB]
      exact hn) (by
      intro m j hj hm
      have v2 : vp_in (nI (16 * w + j)) 128 := vp_in_nI (by omega) (by decide)
      have d4 : ¬ (4 : Int32) = 0 := by decide
      have go : wX10_goWay_68 (wX10_goWay_2 k n) (wX10_goWay_25 (wX10_goWay_2 k n) k m) k (nI w) how (nI f) (nI j) (gwT b f j) (gsl (gsl (gd2 σ 33 34 A B f) 33 0 f (gsum (fun n => gtr (gwT b f n) (re n).toInt64 (im n).toInt64) j)) 34 0 f (gsum (fun n => gti (gwT b f n) (re n).toInt64 (im n).toInt64) j)) := by
        unfold wX10_goWay_68
        rw [nI_1, ix16, nI_clamp (show f < 2 ^ 31 by omega), nI_clamp (show 16 * w + j < 2 ^ 31 by omega)]
        simp only [gsl_f, gd2_1]
        rw [(hr j hj).1, (hr j hj).2]
        refine ⟨vf, v2, v2, v_tRe.mpr ⟨vf, vf, v2, v2, ?_⟩⟩
        simp only [gsl_f, gd2_1]
        rw [(hr j hj).1, (hr j hj).2]
        refine v_tIm.mpr ⟨vf, ?_⟩
        rw [gsl_g (show (34 : Nat) ≠ 33 by decide), gsl_g (show (33 : Nat) ≠ 34 by decide), gsl_e, gsl_e, gsl4 (by decide)]
        exact hm
      unfold wX10_goWay_25
      rw [gwT_m0 ⟨f, hf⟩ ⟨j, hj⟩, gwT_m1 ⟨f, hf⟩ ⟨j, hj⟩]
      refine ⟨fun z => absurd z (nI_ge (b := 16) hj (by decide)), fun _ => ⟨d4, d4, d4, d4, d4, ?_⟩⟩
      rcases hb with ⟨b1, b2⟩ | ⟨b1, b2⟩
      · subst b2
        exact ⟨fun _ => go, fun z => absurd b1 z⟩
      · subst b2
        exact ⟨fun z => absurd z b1, fun _ => ⟨d4, go⟩⟩)
    exact inner)
  rw [gd2_0] at key
  exact key
theorem gsum_bd {f : Nat → Int64} {M : Nat} : ∀ {n : Nat}, n * M < 2 ^ 61 → M < 2 ^ 60 → (∀ j, j < n → -(M : Int) ≤ (f j).toInt ∧ (f j).toInt ≤ M) → -((n * M : Nat) : Int) ≤ (gsum f n).toInt ∧ (gsum f n).toInt ≤ ((n * M : Nat) : Int)
  | 0, _, _, _ => by
    rw [Nat.zero_mul]
    show -((0 : Nat) : Int) ≤ (0 : Int64).toInt ∧ (0 : Int64).toInt ≤ ((0 : Nat) : Int)
    decide
  | n + 1, h, hM, hf => by
    have e : (n + 1) * M = n * M + M := Nat.succ_mul n M
    rw [e] at h ⊢
    exact add64 (gsum_bd (by omega) hM (fun j hj => hf j (by omega))) (hf n (by omega)) (by omega)
theorem neg64 {x : Int64} {M : Nat} (hM : M < 2 ^ 60) (h : -(M : Int) ≤ x.toInt ∧ x.toInt ≤ M) : -(M : Int) ≤ (-x).toInt ∧ (-x).toInt ≤ M := by
  rw [Int64.toInt_neg, Int.bmod_def]
  omega
theorem gtr_bd {t : Int32} {x y : Int64} {M : Nat} (hM : M < 2 ^ 60) (hx : -(M : Int) ≤ x.toInt ∧ x.toInt ≤ M) (hy : -(M : Int) ≤ y.toInt ∧ y.toInt ≤ M) : (-(M : Int) ≤ (gtr t x y).toInt ∧ (gtr t x y).toInt ≤ M) ∧ (-(M : Int) ≤ (gti t x y).toInt ∧ (gti t x y).toInt ≤ M) := by
  have nx := neg64 hM hx
  have ny := neg64 hM hy
  unfold gtr gti
  by_cases c0 : t = 0
  · simp only [if_pos c0]; exact ⟨hx, hy⟩
  by_cases c1 : t = 1
  · simp only [if_neg c0, if_pos c1]; exact ⟨ny, hx⟩
  by_cases c2 : t = 2
  · simp only [if_neg c0, if_neg c1, if_pos c2]; exact ⟨nx, ny⟩
  · simp only [if_neg c0, if_neg c1, if_neg c2]; exact ⟨hy, nx⟩
theorem gw_bd {σ : gT} (h : gRw σ) {w : Nat} (hw : w < 8) (b : Bool) (f : Nat) : (-((16000000 : Nat) : Int) ≤ (gwA b (σ.1 23 w) (σ.1 24 w) f).toInt ∧ (gwA b (σ.1 23 w) (σ.1 24 w) f).toInt ≤ ((16000000 : Nat) : Int)) ∧ (-((16000000 : Nat) : Int) ≤ (gwB b (σ.1 23 w) (σ.1 24 w) f).toInt ∧ (gwB b (σ.1 23 w) (σ.1 24 w) f).toInt ≤ ((16000000 : Nat) : Int)) := by
  have hb : ∀ j, j < 16 → _ := fun j hj => gtr_bd (t := gwT b f j) (M := 1000000) (by decide) (i32_bd (M := 1000000) (h w hw j hj).2.2.1) (i32_bd (M := 1000000) (h w hw j hj).2.2.2)
  exact ⟨gsum_bd (M := 1000000) (n := 16) (by decide) (by decide) (fun j hj => (hb j hj).1), gsum_bd (M := 1000000) (n := 16) (by decide) (by decide) (fun j hj => (hb j hj).2)⟩
theorem div16_bd {x : Int64} (h : -((16000000 : Nat) : Int) ≤ x.toInt ∧ x.toInt ≤ ((16000000 : Nat) : Int)) : -9000000000000000000 ≤ (x / 16).toInt := by
  rw [Int64.toInt_div_of_ne_right _ _ (by decide)]
  have e := Int.natAbs_tdiv x.toInt (16 : Int64).toInt
  have e2 : x.toInt.natAbs.div (16 : Int64).toInt.natAbs ≤ x.toInt.natAbs := Nat.div_le_self _ _
  omega
def gsh (A B : Nat → Int64) (q : Nat) : Prop := lg_cmp (A q - A q / (16 : Int64) * (16 : Int64)) (0 : Int64) = 0 ∧ lg_cmp (B q - B q / (16 : Int64) * (16 : Int64)) (0 : Int64) = 0
theorem gd2_mix {σ : gT} {f f2 j n q : Nat} {A B C D : Nat → Int64} (hf : f ≠ f2) (hq : q < n) (hj : j ≤ q) : (gd2 (gd2 σ f f2 A B n) f f2 C D j).2 f 0 q = A q ∧ (gd2 (gd2 σ f f2 A B n) f f2 C D j).2 f2 0 q = B q := by
  have := gd2_at (σ := σ) (A := A) (B := B) hf hq
  have e : ∀ g, (gd2 (gd2 σ f f2 A B n) f f2 C D j).2 g 0 q = (gd2 σ f f2 A B n).2 g 0 q := fun g => by
    show (if g = f ∧ 0 = 0 ∧ q < j then C q else if g = f2 ∧ 0 = 0 ∧ q < j then D q else (gd2 σ f f2 A B n).2 g 0 q) = _
    rw [if_neg (by omega), if_neg (by omega)]
  rw [e, e]
  exact this
set_option maxHeartbeats 1000000 in
theorem u_share {σ : gT} {A B : Nat → Int64} {k : Int32 → gT → Prop} (hy : (∀ q, q < 16 → gsh A B q) → k 1 (gd2 σ 12 13 (fun q => A q / 16) (fun q => B q / 16) 16)) (hn : (¬ ∀ q, q < 16 → gsh A B q) → ∀ j, k 0 (gd2 (gd2 σ 12 13 A B 16) 12 13 (fun q => A q / 16) (fun q => B q / 16) j)) : wX1_shareBySixteen (gd2 σ 12 13 A B 16) k := by
  unfold wX1_shareBySixteen
  have key := gloop (N := 16) (fun m j => (∀ q, q < j → gsh A B q) → wX1_shareBySixteen_2 k m (nI j) (gd2 (gd2 σ 12 13 A B 16) 12 13 (fun q => A q / 16) (fun q => B q / 16) j)) (by
    intro ha
    unfold wX1_shareBySixteen_2
    refine ⟨fun _ => ⟨Or.inr rfl, ?_⟩, fun z => absurd (by decide) z⟩
    rw [gd2_gd2]
    exact hy ha) (by
    intro n j hj ih ha
    have v : vp_in (nI j) 16 := vp_in_nI hj (by decide)
    have d : ¬ (16 : Int64) = 0 := by decide
    obtain ⟨e1, e2⟩ := gd2_mix (σ := σ) (f := 12) (f2 := 13) (j := j) (n := 16) (q := j) (A := A) (B := B) (C := fun q => A q / 16) (D := fun q => B q / 16) (by decide) hj (Nat.le_refl j)
    unfold wX1_shareBySixteen_2 wX1_put
    rw [nI_1, nI_clamp (show j < 2 ^ 31 by omega), e1, e2]
    refine ⟨fun z => absurd z (nI_ge (b := 16) hj (by decide)), fun _ => ⟨v, d, fun c => ⟨Or.inl rfl, hn (fun z => c (z j hj).1) j⟩, fun c => ⟨v, d, fun c2 => ⟨v, d, v, d, v, v, ?_⟩, fun c2 => ⟨Or.inl rfl, hn (fun z => c2 (z j hj).2) j⟩⟩⟩⟩
    have e := gd2_s (σ := gd2 σ 12 13 A B 16) (f := 12) (f2 := 13) (n := j) (A := fun q => A q / 16) (B := fun q => B q / 16) (by decide)
    rw [e]
    refine ih (fun q hq => ?_)
    rcases Nat.lt_or_ge q j with y | y
    · exact ha q y
    · have hz : q = j := by omega
      subst hz
      exact ⟨c, c2⟩)
  obtain ⟨n, key⟩ := key
  have := key (fun q hq => absurd hq (Nat.not_lt_zero q))
  rw [gd2_0] at this
  exact ⟨n, this⟩
set_option maxHeartbeats 1000000 in
theorem v_share {w : Nat} {σ : gT} {A B : Nat → Int64} {k : Int32 → gT → Prop} (hy : (∀ q, q < 16 → gsh A B q) → wX10_way_116 k (nI w) (gd2 σ 33 34 (fun q => A q / 16) (fun q => B q / 16) 16)) (hn : (¬ ∀ q, q < 16 → gsh A B q) → ∀ j, k (-1000002) (gd2 (gd2 σ 33 34 A B 16) 33 34 (fun q => A q / 16) (fun q => B q / 16) j)) : ∃ n, wX10_way_47 k n (nI w) 0 (gd2 σ 33 34 A B 16) := by
  have key := gloop (N := 16) (fun m j => (∀ q, q < j → gsh A B q) → wX10_way_47 k m (nI w) (nI j) (gd2 (gd2 σ 33 34 A B 16) 33 34 (fun q => A q / 16) (fun q => B q / 16) j)) (by
    intro ha
    unfold wX10_way_47
    refine ⟨fun _ => ?_, fun z => absurd (by decide) z⟩
    rw [gd2_gd2]
    exact hy ha) (by
    intro n j hj ih ha
    have v : vp_in (nI j) 16 := vp_in_nI hj (by decide)
    have d : ¬ (16 : Int64) = 0 := by decide
    obtain ⟨e1, e2⟩ := gd2_mix (σ := σ) (f := 33) (f2 := 34) (j := j) (n := 16) (q := j) (A := A) (B := B) (C := fun q => A q / 16) (D := fun q => B q / 16) (by decide) hj (Nat.le_refl j)
    unfold wX10_way_47
    rw [nI_1, nI_clamp (show j < 2 ^ 31 by omega), gsl_g (by decide), e1, e2]
    refine ⟨fun z => absurd z (nI_ge (b := 16) hj (by decide)), fun _ => ⟨v, d, fun c => hn (fun z => c (z j hj).1) j, fun c => ⟨v, d, fun c2 => ⟨v, d, v, v, d, v, ?_⟩, fun c2 => hn (fun z => c2 (z j hj).2) j⟩⟩⟩
    have e := gd2_s (σ := gd2 σ 33 34 A B 16) (f := 33) (f2 := 34) (n := j) (A := fun q => A q / 16) (B := fun q => B q / 16) (by decide)
    rw [e]
    refine ih (fun q hq => ?_)
    rcases Nat.lt_or_ge q j with y | y
    · exact ha q y
    · have hz : q = j := by omega
      subst hz
      exact ⟨c, c2⟩)
  obtain ⟨n, key⟩ := key
  have := key (fun q hq => absurd hq (Nat.not_lt_zero q))
  rw [gd2_0] at this
  exact ⟨n, this⟩
set_option maxHeartbeats 1000000 in
theorem J_way (x1 x2 : Int32) {σ : gT} (h : gR σ) : wX9_way x1 x2 σ (fun r s1 => wX10_way x1 x2 s1 (fun r2 s2 => r = r2 ∧ gR s2)) := by
  unfold wX9_way wX10_way wX10_way_37 wX9_way_50
  rcases ixc 8 (by decide) (x := x1) with c | ⟨w, hw, rfl⟩
  · simp only [u_isWave_out c, v_isWave_out c, if0, if0n, if1, if1n, true_implies, not_true_eq_false, not_false_eq_true, false_implies, and_true, true_and, implies_true]
    exact gR_thrown h
  have ew : (nI w).toNatClampNeg = w := nI_clamp (by omega)
  have vw : vp_in (nI w) 8 := vp_in_nI hw (by decide)
  simp only [u_isWave_in hw, v_isWave_in hw, if0, if0n, if1, if1n, true_implies, not_true_eq_false, not_false_eq_true, false_implies, and_true, true_and, implies_true, ew]
  rcases ixc 2 (by decide) (x := x2) with c | ⟨t, ht, rfl⟩
  · have h2 : ∀ (σ : gT) (k : Int32 → gT → Prop), wX10_in x2.toInt64 (0 : Int64) (1 : Int64) σ k ↔ k 0 σ := fun σ k => v_outN (N := 2) (by decide) (by decide) rfl c
    simp only [u_below_out (b := 2) c, h2, if0, if0n, if1, if1n, true_implies, not_true_eq_false, not_false_eq_true, false_implies, and_true, true_and, implies_true]
    exact gR_thrown h
  have h1 : ∀ (σ : gT) (k : Int32 → gT → Prop), wX9_below (nI t) (2 : Int32) σ k ↔ k 1 σ := fun σ k => u_below_in (N := 2) ht (by decide)
  have h2 : ∀ (σ : gT) (k : Int32 → gT → Prop), wX10_in (nI t).toInt64 (0 : Int64) (1 : Int64) σ k ↔ k 1 σ := fun σ k => v_inN (N := 2) ht (by decide) rfl
  simp only [h1, h2, if0, if0n, if1, if1n, true_implies, not_true_eq_false, not_false_eq_true, false_implies, and_true, true_and, implies_true]
  have hr : ∀ q, q < 16 → σ.1 31 0 (16 * w + q) = σ.1 23 w q ∧ σ.1 32 0 (16 * w + q) = σ.1 24 w q := fun q hq => ⟨(h.2.1 w hw q hq).1, (h.2.1 w hw q hq).2.1⟩
  have kb : gR (gsu σ 10 0 0 0) := gR_thrown h
  have hbd := fun b f => gw_bd h.2.1 hw b f
  refine ⟨vw, ?_⟩
  rcases (show t = 0 ∨ t = 1 by omega) with z | z <;> subst z
  · refine u_sendOn (b := false) (Or.inl ⟨rfl, rfl⟩) ⟨fun _ => ⟨vw, ?_⟩, fun z => absurd z (by decide)⟩
    have hbd := hbd false
    generalize hA : gwA false (σ.1 23 w) (σ.1 24 w) = A at hbd ⊢
    generalize hB : gwB false (σ.1 23 w) (σ.1 24 w) = B at hbd ⊢
    have hsm : gsm A B := fun q hq => ⟨Int.le_trans (by decide) (hbd q).1.1, Int.le_trans (by decide) (hbd q).2.1⟩
    unfold wX10_way_116
    refine u_settle (A := A) (B := B) (fun q hq => gd2_at (by decide) hq) hsm (fun hf => ⟨fun z => absurd z (by decide), fun _ => ⟨fun _ => ?_, fun z => absurd z (by decide)⟩⟩) (fun hf => ⟨fun _ => ⟨fun _ => ?_, fun z => absurd z (by decide)⟩, fun z => absurd rfl z⟩)
    · refine v_goWay (b := false) (re := σ.1 23 w) (im := σ.1 24 w) hw (Or.inl ⟨rfl, rfl⟩) (fun q hq => by simp (disch := decide) only [gsu_f, gsu_s, gsu_e, gsl_f, gsl_g, gsl_s, gsl_e, gsu_g, gw9_f, gd2_1]; exact hr q hq) ⟨fun _ => ?_, fun z => absurd z (by decide)⟩
      rw [hA, hB]
      exact v_isMade (A := A) (B := B) hw (fun q hq => gd2_at (by decide) hq) (fun _ => ⟨fun z => absurd z (by decide), fun _ => ⟨rfl, gR_fin1 h hw hf⟩⟩) (fun z => absurd hf z)
    · refine v_goWay (b := false) (re := σ.1 23 w) (im := σ.1 24 w) hw (Or.inl ⟨rfl, rfl⟩) (fun q hq => by simp (disch := decide) only [gsu_f, gsu_s, gsu_e, gsl_f, gsl_g, gsl_s, gsl_e, gsu_g, gd2_1]; exact hr q hq) ⟨fun _ => ?_, fun z => absurd z (by decide)⟩
      rw [hA, hB]
      exact v_isMade (A := A) (B := B) hw (fun q hq => gd2_at (by decide) hq) (fun z => absurd z hf) (fun _ => ⟨fun _ => ⟨rfl, kb⟩, fun z => absurd rfl z⟩)
  · refine u_sendOn (b := true) (Or.inr ⟨by decide, rfl⟩) ⟨fun z => absurd rfl z, fun _ => ?_⟩
    have hbd := hbd true
    generalize hA : gwA true (σ.1 23 w) (σ.1 24 w) = A at hbd ⊢
    generalize hB : gwB true (σ.1 23 w) (σ.1 24 w) = B at hbd ⊢
    have go : ∀ (τ : gT) (k : Int32 → gT → Prop), (∀ q, q < 16 → τ.1 31 0 (16 * w + q) = σ.1 23 w q ∧ τ.1 32 0 (16 * w + q) = σ.1 24 w q) → ((∀ q, q < 16 → gsh A B q) → wX10_way_116 k (nI w) (gd2 τ 33 34 (fun q => A q / 16) (fun q => B q / 16) 16)) → ((¬ ∀ q, q < 16 → gsh A B q) → ∀ j, k (-1000002) (gd2 (gd2 τ 33 34 A B 16) 33 34 (fun q => A q / 16) (fun q => B q / 16) j)) → wX10_goWay (nI w) 1 τ (fun s8 => (¬ nI 1 = 1 → wX10_way_116 k (nI w) s8) ∧ (nI 1 = 1 → ∃ n9 : Nat, wX10_way_47 k n9 (nI w) 0 s8)) := by
      intro τ k hτ hy hn
      refine v_goWay (b := true) (re := σ.1 23 w) (im := σ.1 24 w) hw (Or.inr ⟨by decide, rfl⟩) hτ ⟨fun z => absurd rfl z, fun _ => ?_⟩
      rw [hA, hB]
      exact v_share hy hn
    refine u_share (fun hs => ⟨fun _ => ⟨vw, ?_⟩, fun z => absurd z (by decide)⟩) (fun hs j => ⟨fun z => absurd rfl z, fun _ => ⟨fun z => absurd rfl z, fun _ => go _ _ (fun q hq => by simp (disch := decide) only [gsu_f, gsu_s, gsu_e, gsl_f, gsl_g, gsl_s, gsl_e, gsu_g, gd2_1]; exact hr q hq) (fun z => absurd z hs) (fun _ j => ⟨rfl, kb⟩)⟩⟩)
    have hsm : gsm (fun q => A q / 16) (fun q => B q / 16) := fun q hq => ⟨div16_bd (hbd q).1, div16_bd (hbd q).2⟩
    refine u_settle (A := fun q => A q / 16) (B := fun q => B q / 16) (fun q hq => gd2_at (by decide) hq) hsm (fun hf => ⟨fun z => absurd z (by decide), fun _ => ⟨fun z => absurd rfl z, fun _ => go _ _ (fun q hq => by simp (disch := decide) only [gsu_f, gsu_s, gsu_e, gsl_f, gsl_g, gsl_s, gsl_e, gsu_g, gw9_f, gd2_1]; exact hr q hq) (fun _ => ?_) (fun z => absurd hs z)⟩⟩) (fun hf => ⟨fun _ => ⟨fun z => absurd rfl z, fun _ => go _ _ (fun q hq => by simp (disch := decide) only [gsu_f, gsu_s, gsu_e, gsl_f, gsl_g, gsl_s, gsl_e, gsu_g, gd2_1]; exact hr q hq) (fun _ => ?_) (fun z => absurd hs z)⟩, fun z => absurd rfl z⟩)
    · unfold wX10_way_116
      exact v_isMade (A := fun q => A q / 16) (B := fun q => B q / 16) hw (fun q hq => gd2_at (by decide) hq) (fun _ => ⟨fun z => absurd z (by decide), fun _ => ⟨rfl, gR_fin1 h hw hf⟩⟩) (fun z => absurd hf z)
    · unfold wX10_way_116
      exact v_isMade (A := fun q => A q / 16) (B := fun q => B q / 16) hw (fun q hq => gd2_at (by decide) hq) (fun z => absurd z hf) (fun _ => ⟨fun _ => ⟨rfl, kb⟩, fun z => absurd rfl z⟩)
