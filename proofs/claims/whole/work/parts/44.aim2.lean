/-! PURE: aim, the model's side -/
def iI (z : Int) : Int32 := Int32.ofInt z
theorem iI_add (a b : Int) : iI (a + b) = iI a + iI b := Int32.ofInt_add a b
theorem iI_mul (a b : Int) : iI (a * b) = iI a * iI b := Int32.ofInt_mul a b
theorem iI_nat (n : Nat) : iI (n : Int) = nI n := Int32.ofInt_eq_ofNat
theorem iI_0 : iI 0 = 0 := by decide
theorem iI_p : iI 1 = 1 := by decide
theorem iI_m : iI (-1) = -1 := by decide
theorem gsnd_s {i j : Nat} {T : Nat → Nat} {β : Nat → Bool} {n : Nat} : gsnd i j T β (n + 1) = gsnd i j T β n + gsgn i j T β n := rfl
theorem gsgn_f {i j : Nat} {T : Nat → Nat} {β : Nat → Bool} {n : Nat} (c : ¬ β n = true) : gsgn i j T β n = 0 := if_neg c
theorem gsgn_v {i j : Nat} {T : Nat → Nat} {β : Nat → Bool} {n : Nat} (c : β n = true) : gsgn i j T β n = if T n = i then 1 else if T n = j then -1 else 0 := if_pos c
set_option maxHeartbeats 1000000 in
theorem v_aim_in {p q u v m : Nat} {T : Nat → Nat} {β : Nat → Bool} {x5 x6 x7 : Int32} {σ : gT} {k : Int32 → gT → Prop} {K77 : Int32 → Int32 → Int32 → Int32 → Int32 → Int32 → Int32 → Int32 → gT → Prop} (hP : p + u < 7) (hQ : q + v < 7) (hT : ∀ j, j < 16 → T j = gaT (p + u) (q + v) j ∧ T j < 4) (hm : m < 2 ^ 31) (hβ : ∀ j, j < 16 → (m.testBit j = true ↔ β j = true))
    (h : ((iI (gsnd 0 2 T β 16) * iI (gsnd 0 2 T β 16)) + (iI (gsnd 1 3 T β 16) * iI (gsnd 1 3 T β 16)) ≤ x7 → K77 (nI p) (nI q) (nI u) (nI v) x5 x6 x7 (nI (m + 1)) σ) ∧ (¬ (iI (gsnd 0 2 T β 16) * iI (gsnd 0 2 T β 16)) + (iI (gsnd 1 3 T β 16) * iI (gsnd 1 3 T β 16)) ≤ x7 → K77 (nI p) (nI q) (nI u) (nI v) x5 (nI m) ((iI (gsnd 0 2 T β 16) * iI (gsnd 0 2 T β 16)) + (iI (gsnd 1 3 T β 16) * iI (gsnd 1 3 T β 16))) (nI (m + 1)) σ)) : ∃ n, wX10_aim_93 K77 k n (nI p) (nI q) (nI u) (nI v) x5 x6 x7 (nI m) 0 0 0 σ := by
  obtain ⟨n, key⟩ := gloop (N := 16) (fun t j => wX10_aim_93 K77 k t (nI p) (nI q) (nI u) (nI v) x5 x6 x7 (nI m) (iI (gsnd 0 2 T β j)) (iI (gsnd 1 3 T β j)) (nI j) σ) (by
    unfold wX10_aim_93 wX10_aim_223
    rw [nI_1]
    exact ⟨fun _ => h, fun z => absurd (by decide) z⟩) (by
    intro n j hj hn
    have e := gaT_m ⟨p + u, hP⟩ ⟨q + v, hQ⟩ ⟨j, hj⟩
    dsimp only at e
    obtain ⟨t1, t2⟩ := hT j hj
    rw [← t1] at e
    unfold wX10_aim_93 wX10_aim_184 wX10_aim_155 wX10_aim_181 wX10_aim_184
    rw [nI_add p u, nI_add q v, e, nI_1, bit_ix hm hj, hβ j hj]
    refine ⟨fun z => absurd z (nI_ge (b := 16) hj (by decide)), fun _ => ⟨fun c => ?_, fun c => ⟨by decide, by decide, by decide, ?_⟩⟩⟩
    · rw [gsnd_s, gsnd_s, gsgn_f (i := 0) (j := 2) (T := T) c, gsgn_f (i := 1) (j := 3) (T := T) c, Int.add_zero, Int.add_zero] at hn
      exact hn
    · rcases (show T j = 0 ∨ T j = 1 ∨ T j = 2 ∨ T j = 3 by omega) with t | t | t | t
      · have a1 : gsgn 0 2 T β j = 1 := by rw [gsgn_v c, t]; rfl
        have a2 : gsgn 1 3 T β j = 0 := by rw [gsgn_v c, t]; rfl
        rw [gsnd_s, gsnd_s, a1, a2, iI_add, iI_add, iI_p, iI_0] at hn
        rw [t]
        exact ⟨fun z => absurd rfl z, fun _ => ⟨fun _ => ⟨fun _ => hn, fun z => absurd z (by decide)⟩, fun z => absurd z (by decide)⟩⟩
      · have a1 : gsgn 0 2 T β j = 0 := by rw [gsgn_v c, t]; rfl
        have a2 : gsgn 1 3 T β j = 1 := by rw [gsgn_v c, t]; rfl
        rw [gsnd_s, gsnd_s, a1, a2, iI_add, iI_add, iI_p, iI_0] at hn
        rw [t]
        exact ⟨fun _ => ⟨fun _ => ⟨fun z => absurd rfl z, fun _ => hn⟩, fun z => absurd z (by decide)⟩, fun z => absurd z (by decide)⟩
      · have a1 : gsgn 0 2 T β j = -1 := by rw [gsgn_v c, t]; rfl
        have a2 : gsgn 1 3 T β j = 0 := by rw [gsgn_v c, t]; rfl
        rw [gsnd_s, gsnd_s, a1, a2, iI_add, iI_add, iI_m, iI_0] at hn
        rw [t]
        exact ⟨fun _ => ⟨fun z => absurd rfl z, fun _ => ⟨fun _ => ⟨fun _ => hn, fun z => absurd z (by decide)⟩, fun z => absurd z (by decide)⟩⟩, fun z => absurd z (by decide)⟩
      · have a1 : gsgn 0 2 T β j = 0 := by rw [gsgn_v c, t]; rfl
        have a2 : gsgn 1 3 T β j = -1 := by rw [gsgn_v c, t]; rfl
        rw [gsnd_s, gsnd_s, a1, a2, iI_add, iI_add, iI_m, iI_0] at hn
        rw [t]
        exact ⟨fun _ => ⟨fun _ => ⟨fun _ => ⟨fun z => absurd rfl z, fun _ => hn⟩, fun z => absurd z (by decide)⟩, fun z => absurd z (by decide)⟩, fun z => absurd z (by decide)⟩)
  have key : wX10_aim_93 K77 k n (nI p) (nI q) (nI u) (nI v) x5 x6 x7 (nI m) (iI 0) (iI 0) (nI 0) σ := key
  rw [iI_0, nI_0] at key
  exact ⟨n, key⟩
theorem sq_le {a : Int} {A : Nat} (h1 : -(A : Int) ≤ a) (h2 : a ≤ A) : a * a ≤ ((A * A : Nat) : Int) ∧ (a * a = ((A * A : Nat) : Int) → a = A ∨ a = -(A : Int)) := by
  have h : a.natAbs ≤ A := by omega
  have e := @Int.natAbs_mul_self a
  have h3 := Nat.mul_le_mul h h
  refine ⟨by rw [← e]; exact Int.ofNat_le.mpr h3, fun z => ?_⟩
  rw [← e] at z
  have z2 : a.natAbs * a.natAbs = A * A := Int.ofNat.inj z
  have z3 := Nat.mul_self_inj.mp z2
  omega
set_option maxHeartbeats 1000000 in
theorem gval_bd {T : Nat → Nat} {β : Nat → Bool} {V m : Nat} (hT : ∀ k, k < 16 → T k < 4) (hb : gbst T V m = true) : gsnd 0 2 T β 16 * gsnd 0 2 T β 16 + gsnd 1 3 T β 16 * gsnd 1 3 T β 16 ≤ (V : Int) ∧ (gsnd 0 2 T β 16 * gsnd 0 2 T β 16 + gsnd 1 3 T β 16 * gsnd 1 3 T β 16 = (V : Int) → m ≤ gnum β 16) := by
  obtain ⟨-, -, eV, c1, c2, c3, c4⟩ := of_decide_eq_true hb
  obtain ⟨⟨l1, u1⟩, s1, s2⟩ := gsnd_bd (T := T) (β := β) (i := 0) (j := 2) (by decide) 16
  obtain ⟨⟨l2, u2⟩, s3, s4⟩ := gsnd_bd (T := T) (β := β) (i := 1) (j := 3) (by decide) 16
  have A0 : gcn4 T 0 16 ≤ max (gcn4 T 0 16) (gcn4 T 2 16) := Nat.le_max_left _ _
  have A2 : gcn4 T 2 16 ≤ max (gcn4 T 0 16) (gcn4 T 2 16) := Nat.le_max_right _ _
  have B1 : gcn4 T 1 16 ≤ max (gcn4 T 1 16) (gcn4 T 3 16) := Nat.le_max_left _ _
  have B3 : gcn4 T 3 16 ≤ max (gcn4 T 1 16) (gcn4 T 3 16) := Nat.le_max_right _ _
  generalize max (gcn4 T 0 16) (gcn4 T 2 16) = A at *
  generalize max (gcn4 T 1 16) (gcn4 T 3 16) = B at *
  have qa := sq_le (a := gsnd 0 2 T β 16) (A := A) (by omega) (by omega)
  have qb := sq_le (a := gsnd 1 3 T β 16) (A := B) (by omega) (by omega)
  generalize ea : gsnd 0 2 T β 16 = a at *
  generalize eb : gsnd 1 3 T β 16 = b at *
  have hV : (V : Int) = ((A * A : Nat) : Int) + ((B * B : Nat) : Int) := by rw [eV]; exact Int.natCast_add _ _
  rw [hV]
  generalize ((A * A : Nat) : Int) = AA at *
  generalize ((B * B : Nat) : Int) = BB at *
  generalize a * a = aa at *
  generalize b * b = bb at *
  refine ⟨by omega, fun z => ?_⟩
  have ga := qa.2 (by omega)
  have gb := qb.2 (by omega)
  have fin : ∀ i j, (∀ k, k < 16 → β k = decide (T k = i ∨ T k = j)) → m ≤ gnum (fun k => decide (T k = i ∨ T k = j)) 16 → m ≤ gnum β 16 := fun i j hk hm => by
    rw [gnum_cong hk]
    exact hm
  rcases ga with ga | ga <;> rcases gb with gb | gb
  · have f1 := s1 (by omega)
    have f2 := s3 (by omega)
    refine fin 0 1 (fun k hk => ?_) (c1 (by omega) (by omega))
    have := hT k hk
    rcases (show T k = 0 ∨ T k = 1 ∨ T k = 2 ∨ T k = 3 by omega) with t | t | t | t
    · rw [(f1 k hk).1 t, t]; rfl
    · rw [(f2 k hk).1 t, t]; rfl
    · rw [(f1 k hk).2 t, t]; rfl
    · rw [(f2 k hk).2 t, t]; rfl
  · have f1 := s1 (by omega)
    have f2 := s4 (by omega)
    refine fin 0 3 (fun k hk => ?_) (c2 (by omega) (by omega))
    have := hT k hk
    rcases (show T k = 0 ∨ T k = 1 ∨ T k = 2 ∨ T k = 3 by omega) with t | t | t | t
    · rw [(f1 k hk).1 t, t]; rfl
    · rw [(f2 k hk).1 t, t]; rfl
    · rw [(f1 k hk).2 t, t]; rfl
    · rw [(f2 k hk).2 t, t]; rfl
  · have f1 := s2 (by omega)
    have f2 := s3 (by omega)
    refine fin 2 1 (fun k hk => ?_) (c3 (by omega) (by omega))
    have := hT k hk
    rcases (show T k = 0 ∨ T k = 1 ∨ T k = 2 ∨ T k = 3 by omega) with t | t | t | t
    · rw [(f1 k hk).1 t, t]; rfl
    · rw [(f2 k hk).1 t, t]; rfl
    · rw [(f1 k hk).2 t, t]; rfl
    · rw [(f2 k hk).2 t, t]; rfl
  · have f1 := s2 (by omega)
    have f2 := s4 (by omega)
    refine fin 2 3 (fun k hk => ?_) (c4 (by omega) (by omega))
    have := hT k hk
    rcases (show T k = 0 ∨ T k = 1 ∨ T k = 2 ∨ T k = 3 by omega) with t | t | t | t
    · rw [(f1 k hk).1 t, t]; rfl
    · rw [(f2 k hk).1 t, t]; rfl
    · rw [(f1 k hk).2 t, t]; rfl
    · rw [(f2 k hk).2 t, t]; rfl
set_option maxHeartbeats 1000000 in
theorem v_aim {p q u v V m : Nat} {x5 : Int32} {σ : gT} {k : Int32 → gT → Prop} (hP : p + u < 7) (hQ : q + v < 7) (hb : gbst (gaT (p + u) (q + v)) V m = true) (h : (¬ x5 = 0 → k (nI m) σ) ∧ (x5 = 0 → k (nI V) σ)) : ∃ n, wX10_aim_77 k n (nI p) (nI q) (nI u) (nI v) x5 0 0 1 σ := by
  obtain ⟨⟨v0, v1, m1, m2⟩, eV, -⟩ := of_decide_eq_true hb
  have hT : ∀ j, gaT (p + u) (q + v) j < 4 := fun j => Nat.mod_lt _ (by decide)
  have key := gloop (N := 65535) (fun t j => ∀ best most : Int32, ((j + 1 ≤ m ∧ ∃ M, M < V ∧ most = nI M) ∨ (m < j + 1 ∧ most = nI V ∧ best = nI m)) → wX10_aim_77 k t (nI p) (nI q) (nI u) (nI v) x5 best most (nI (j + 1)) σ) (by
    intro best most hI
    unfold wX10_aim_77
    rcases hI with ⟨z, -⟩ | ⟨-, rfl, rfl⟩
    · omega
    · exact ⟨fun _ => h, fun z => absurd (by decide) z⟩) (by
    intro n j hj hn best most hI
    unfold wX10_aim_77
    refine ⟨fun z => absurd z (nI_ge (b := 65536) (by omega) (by decide)), fun _ => v_aim_in (T := gaT (p + u) (q + v)) (β := fun k => (j + 1).testBit k) hP hQ (fun j _ => ⟨rfl, hT j⟩) (by omega) (fun j _ => Iff.rfl) ?_⟩
    have bd := gval_bd (T := gaT (p + u) (q + v)) (β := fun k => (j + 1).testBit k) (fun k _ => hT k) hb
    rw [gnum_bits, Nat.mod_eq_of_lt (show j + 1 < 2 ^ 16 by omega)] at bd
    rw [← iI_mul, ← iI_mul, ← iI_add]
    have nn := Int.add_nonneg (sq_nn (gsnd 0 2 (gaT (p + u) (q + v)) (fun k => (j + 1).testBit k) 16)) (sq_nn (gsnd 1 3 (gaT (p + u) (q + v)) (fun k => (j + 1).testBit k) 16))
    have hm : j + 1 = m → gsnd 0 2 (gaT (p + u) (q + v)) (fun k => (j + 1).testBit k) 16 * gsnd 0 2 (gaT (p + u) (q + v)) (fun k => (j + 1).testBit k) 16 + gsnd 1 3 (gaT (p + u) (q + v)) (fun k => (j + 1).testBit k) 16 * gsnd 1 3 (gaT (p + u) (q + v)) (fun k => (j + 1).testBit k) 16 = (V : Int) := fun z => by rw [z]; exact eV
    generalize gsnd 0 2 (gaT (p + u) (q + v)) (fun k => (j + 1).testBit k) 16 * gsnd 0 2 (gaT (p + u) (q + v)) (fun k => (j + 1).testBit k) 16 + gsnd 1 3 (gaT (p + u) (q + v)) (fun k => (j + 1).testBit k) 16 * gsnd 1 3 (gaT (p + u) (q + v)) (fun k => (j + 1).testBit k) 16 = S at *
    obtain ⟨f, rfl⟩ : ∃ f : Nat, S = (f : Int) := ⟨S.toNat, by omega⟩
    rw [iI_nat]
    have b1 : f ≤ V := by omega
    rcases hI with ⟨z, M, hM, rfl⟩ | ⟨z, rfl, rfl⟩
    · rw [nI_leI (by omega) (by omega)]
      refine ⟨fun c => hn _ _ (Or.inl ⟨?_, M, hM, rfl⟩), fun c => ?_⟩
      · by_cases y : j + 1 = m
        · have := hm y; omega
        · omega
      · by_cases y : j + 1 = m
        · have := hm y
          have hf : f = V := by omega
          subst hf
          exact hn _ _ (Or.inr ⟨by omega, rfl, by rw [y]⟩)
        · refine hn _ _ (Or.inl ⟨by omega, f, ?_, rfl⟩)
          by_cases y2 : f = V
          · have := bd.2 (by omega); omega
          · omega
    · rw [nI_leI (by omega) (by omega)]
      exact ⟨fun c => hn _ _ (Or.inr ⟨by omega, rfl, rfl⟩), fun c => absurd b1 c⟩)
  obtain ⟨n, key⟩ := key
  exact ⟨n, key 0 0 (Or.inl ⟨m1, 0, v0, rfl⟩)⟩
set_option maxHeartbeats 1000000 in
theorem J_aim (x1 x2 x3 x4 x5 : Int32) {σ : gT} (h : gR σ) : wX9_aim x1 x2 x3 x4 x5 σ (fun r s1 => wX10_aim x1 x2 x3 x4 x5 s1 (fun r2 s2 => r = r2 ∧ gR s2)) := by
  unfold wX9_aim wX10_aim
  have kb : gR (gsu σ 10 0 0 0) := gR_thrown h
  have o1 : ∀ (x : Int32), (x < 0 ∨ nI 4 ≤ x) → ∀ (σ : gT) (k : Int32 → gT → Prop), (wX9_below x (4 : Int32) σ k ↔ k 0 σ) ∧ (wX10_in x.toInt64 (0 : Int64) (3 : Int64) σ k ↔ k 0 σ) := fun x c σ k => ⟨u_below_out (b := 4) c, v_outN (N := 4) (by decide) (by decide) rfl c⟩
  have i1 : ∀ (j : Nat), j < 4 → ∀ (σ : gT) (k : Int32 → gT → Prop), (wX9_below (nI j) (4 : Int32) σ k ↔ k 1 σ) ∧ (wX10_in (nI j).toInt64 (0 : Int64) (3 : Int64) σ k ↔ k 1 σ) := fun j c σ k => ⟨u_below_in (N := 4) c (by decide), v_inN (N := 4) c (by decide) rfl⟩
  rcases ixc 4 (by decide) (x := x1) with c | ⟨p, hp, rfl⟩
  · simp only [fun σ k => (o1 x1 c σ k).1, fun σ k => (o1 x1 c σ k).2, if0, if0n, if1, if1n, true_implies, not_true_eq_false, not_false_eq_true, false_implies, and_true, true_and, implies_true]
    exact kb
  simp only [fun σ k => (i1 p hp σ k).1, fun σ k => (i1 p hp σ k).2, if0, if0n, if1, if1n, true_implies, not_true_eq_false, not_false_eq_true, false_implies, and_true, true_and, implies_true]
  rcases ixc 4 (by decide) (x := x2) with c | ⟨q, hq, rfl⟩
  · simp only [fun σ k => (o1 x2 c σ k).1, fun σ k => (o1 x2 c σ k).2, if0, if0n, if1, if1n, true_implies, not_true_eq_false, not_false_eq_true, false_implies, and_true, true_and, implies_true]
    exact kb
  simp only [fun σ k => (i1 q hq σ k).1, fun σ k => (i1 q hq σ k).2, if0, if0n, if1, if1n, true_implies, not_true_eq_false, not_false_eq_true, false_implies, and_true, true_and, implies_true]
  rcases ixc 4 (by decide) (x := x3) with c | ⟨u, hu, rfl⟩
  · simp only [fun σ k => (o1 x3 c σ k).1, fun σ k => (o1 x3 c σ k).2, if0, if0n, if1, if1n, true_implies, not_true_eq_false, not_false_eq_true, false_implies, and_true, true_and, implies_true]
    exact kb
  simp only [fun σ k => (i1 u hu σ k).1, fun σ k => (i1 u hu σ k).2, if0, if0n, if1, if1n, true_implies, not_true_eq_false, not_false_eq_true, false_implies, and_true, true_and, implies_true]
  rcases ixc 4 (by decide) (x := x4) with c | ⟨v, hv, rfl⟩
  · simp only [fun σ k => (o1 x4 c σ k).1, fun σ k => (o1 x4 c σ k).2, if0, if0n, if1, if1n, true_implies, not_true_eq_false, not_false_eq_true, false_implies, and_true, true_and, implies_true]
    exact kb
  simp only [fun σ k => (i1 v hv σ k).1, fun σ k => (i1 v hv σ k).2, if0, if0n, if1, if1n, true_implies, not_true_eq_false, not_false_eq_true, false_implies, and_true, true_and, implies_true]
  rcases ixc 2 (by decide) (x := x5) with c | ⟨w, hw, rfl⟩
  · have h1 : ∀ (σ : gT) (k : Int32 → gT → Prop), wX9_below x5 (2 : Int32) σ k ↔ k 0 σ := fun σ k => u_below_out (b := 2) c
    have h2 : ∀ (σ : gT) (k : Int32 → gT → Prop), wX10_in x5.toInt64 (0 : Int64) (1 : Int64) σ k ↔ k 0 σ := fun σ k => v_outN (N := 2) (by decide) (by decide) rfl c
    simp only [h1, h2, if0, if0n, if1, if1n, true_implies, not_true_eq_false, not_false_eq_true, false_implies, and_true, true_and, implies_true]
    exact kb
  have h1 : ∀ (σ : gT) (k : Int32 → gT → Prop), wX9_below (nI w) (2 : Int32) σ k ↔ k 1 σ := fun σ k => u_below_in (N := 2) hw (by decide)
  have h2 : ∀ (σ : gT) (k : Int32 → gT → Prop), wX10_in (nI w).toInt64 (0 : Int64) (1 : Int64) σ k ↔ k 1 σ := fun σ k => v_inN (N := 2) hw (by decide) rfl
  simp only [h1, h2, if0, if0n, if1, if1n, true_implies, not_true_eq_false, not_false_eq_true, false_implies, and_true, true_and, implies_true]
  have hP : p + u < 7 := by omega
  have hQ : q + v < 7 := by omega
  obtain ⟨g1, g2, g3⟩ := gans_ok ⟨p + u, hP⟩ ⟨q + v, hQ⟩
  dsimp only at g1 g2 g3
  refine u_aim hP hQ ⟨fun c => v_aim hP hQ g3 ⟨fun _ => ⟨g2, kb⟩, fun z => absurd z c⟩, fun c => v_aim hP hQ g3 ⟨fun z => absurd c z, fun _ => ⟨g1, kb⟩⟩⟩
