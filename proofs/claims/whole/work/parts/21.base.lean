/-! PURE: numbers, reads behind writes, the relation between the class's part of the store and the model's -/
theorem fa_lt (a b : Int32) : a < b ↔ a.toInt < b.toInt := Int32.lt_iff_toInt_lt
theorem fa_le (a b : Int32) : a ≤ b ↔ a.toInt ≤ b.toInt := Int32.le_iff_toInt_le
theorem fa_eq (a b : Int32) : a = b ↔ a.toInt = b.toInt := Int32.toInt_inj.symm
theorem fa_lt64 (a b : Int64) : a < b ↔ a.toInt < b.toInt := Int64.lt_iff_toInt_lt
theorem fa_le64 (a b : Int64) : a ≤ b ↔ a.toInt ≤ b.toInt := Int64.le_iff_toInt_le
theorem fa_eq64 (a b : Int64) : a = b ↔ a.toInt = b.toInt := Int64.toInt_inj.symm
theorem fa_wide_lt (a b : Int32) : a.toInt64 < b.toInt64 ↔ a < b := by rw [fa_lt64, fa_lt, Int32.toInt_toInt64, Int32.toInt_toInt64]
theorem fa_wide_le (a b : Int32) : a.toInt64 ≤ b.toInt64 ↔ a ≤ b := by rw [fa_le64, fa_le, Int32.toInt_toInt64, Int32.toInt_toInt64]
theorem fa_wide_eq (a b : Int32) : a.toInt64 = b.toInt64 ↔ a = b := by rw [fa_eq64, fa_eq, Int32.toInt_toInt64, Int32.toInt_toInt64]
theorem nlt_le {a b : Int32} : ¬ a < b ↔ b ≤ a := by rw [fa_lt, fa_le]; omega
theorem nle_lt {a b : Int32} : ¬ a ≤ b ↔ b < a := by rw [fa_lt, fa_le]; omega
set_option maxHeartbeats 1000000 in
theorem cmp_lt0 (x y : Int64) : lg_cmp x y < 0 ↔ x < y := by
  unfold lg_cmp
  rw [fa_lt64]
  by_cases h1 : x > y
  · rw [if_pos h1]
    have h1 : y < x := h1
    rw [fa_lt64] at h1
    constructor
    · intro h; exact absurd h (by decide)
    · intro h; omega
  · rw [if_neg h1]
    have h1 : ¬ y < x := h1
    rw [fa_lt64] at h1
    by_cases h2 : x = y
    · rw [if_pos h2]
      subst h2
      constructor
      · intro h; exact absurd h (by decide)
      · intro h; omega
    · rw [if_neg h2]
      rw [fa_eq64] at h2
      constructor
      · intro _; omega
      · intro _; decide
set_option maxHeartbeats 1000000 in
theorem cmp_gt0 (x y : Int64) : 0 < lg_cmp x y ↔ y < x := by
  unfold lg_cmp
  by_cases h1 : x > y
  · rw [if_pos h1]
    exact ⟨fun _ => h1, fun _ => by decide⟩
  · rw [if_neg h1]
    constructor
    · intro h
      split at h
      · exact absurd h (by decide)
      · exact absurd h (by decide)
    · intro h
      exact absurd h h1
set_option maxHeartbeats 1000000 in
theorem cmp_eq0 (x y : Int64) : lg_cmp x y = 0 ↔ x = y := by
  unfold lg_cmp
  by_cases h1 : x > y
  · rw [if_pos h1]
    constructor
    · intro h; exact absurd h (by decide)
    · intro h
      subst h
      have h1 : x < x := h1
      rw [fa_lt64] at h1
      omega
  · rw [if_neg h1]
    by_cases h2 : x = y
    · rw [if_pos h2]; exact ⟨fun _ => h2, fun _ => rfl⟩
    · rw [if_neg h2]
      exact ⟨fun h => absurd h (by decide), fun h => absurd h h2⟩
theorem cmp_le0 (x y : Int64) : lg_cmp x y ≤ 0 ↔ x ≤ y := by
  have h := cmp_gt0 x y
  rw [← nle_lt] at h
  rw [fa_lt64] at h
  rw [fa_le64]
  by_cases c : lg_cmp x y ≤ 0
  · exact ⟨fun _ => by by_cases z : y.toInt < x.toInt; exact absurd c (h.mpr z); omega, fun _ => c⟩
  · have := h.mp c
    exact ⟨fun z => absurd z c, fun z => by omega⟩
theorem cmp_ge0 (x y : Int64) : 0 ≤ lg_cmp x y ↔ y ≤ x := by
  have h := cmp_lt0 x y
  rw [← nle_lt] at h
  rw [fa_lt64] at h
  rw [fa_le64]
  by_cases c : 0 ≤ lg_cmp x y
  · exact ⟨fun _ => by by_cases z : x.toInt < y.toInt; exact absurd c (h.mpr z); omega, fun _ => c⟩
  · have := h.mp c
    exact ⟨fun z => absurd z c, fun z => by omega⟩
theorem gsu_1 (σ : gT) (f i j : Nat) (x : Int32) (a b c : Nat) : (gsu σ f i j x).1 a b c = if a = f ∧ b = i ∧ c = j then x else σ.1 a b c := rfl
theorem gsu_2 (σ : gT) (f i j : Nat) (x : Int32) (a b c : Nat) : (gsu σ f i j x).2 a b c = σ.2 a b c := rfl
theorem gsl_1 (σ : gT) (f i j : Nat) (x : Int64) (a b c : Nat) : (gsl σ f i j x).1 a b c = σ.1 a b c := rfl
theorem gsl_2 (σ : gT) (f i j : Nat) (x : Int64) (a b c : Nat) : (gsl σ f i j x).2 a b c = if a = f ∧ b = i ∧ c = j then x else σ.2 a b c := rfl
theorem ix16 (w p : Nat) : ((16 : Int32) * nI w) + nI p = nI (16 * w + p) := by rw [show (16 : Int32) = nI 16 from rfl, pk_mul, nI_add]
theorem ix64 (w p : Nat) : ((64 : Int32) * nI w) + nI p = nI (64 * w + p) := by rw [show (64 : Int32) = nI 64 from rfl, pk_mul, nI_add]
theorem vp0 {x : Int32} {n : Nat} (h : vp_in x n) (hn : n < 2 ^ 31) : ∃ j, j < n ∧ x = nI j := vp_in_of h hn
/-! the relation -/
def gRs (σ : gT) : Prop := ∀ s, s < 8 → σ.1 28 0 s = σ.1 6 s 1 ∧ (σ.1 6 s 1 = -1 ∨ σ.1 6 s 1 = 0 ∨ σ.1 6 s 1 = 1 ∨ σ.1 6 s 1 = 2) ∧ (¬ σ.1 6 s 1 = -1 → ∃ n, n ≤ 64 ∧ σ.1 6 s 2 = nI n ∧ σ.1 29 0 s = nI n) ∧ ∀ j, j < 64 → σ.1 30 0 (64 * s + j) = σ.1 21 s j
def gRw (σ : gT) : Prop := ∀ w, w < 8 → ∀ q, q < 16 → σ.1 31 0 (16 * w + q) = σ.1 23 w q ∧ σ.1 32 0 (16 * w + q) = σ.1 24 w q ∧ (-1000000 ≤ (σ.1 23 w q).toInt ∧ (σ.1 23 w q).toInt ≤ 1000000) ∧ (-1000000 ≤ (σ.1 24 w q).toInt ∧ (σ.1 24 w q).toInt ≤ 1000000)
/-- a grain as it is told to a model: a lost one is -1 -/
def gpg (σ : gT) (p q : Nat) : Int32 := if (((σ.1 3 p 1) >>> (nI q &&& (31 : Int32))) &&& (1 : Int32)) = 1 then -1 else σ.1 17 p q
/-- a grain as it counts in sums: a lost one is 0 -/
def gshw (g : Int32) : Int32 := if g = -1 then 0 else g
/-- what a plate of the class keeps: a set of lost places, and 0 at each of them -/
def gLs (σ : gT) (p : Nat) : Prop := (∃ m, m < 65536 ∧ σ.1 3 p 1 = nI m) ∧ ∀ q, q < 16 → σ.1 17 p q = gshw (gpg σ p q)
def gRp (σ : gT) : Prop := ∀ p, p < 6 → σ.1 36 0 p = σ.1 3 p 2 ∧ (∃ n, n ≤ 100000 ∧ σ.1 3 p 2 = nI n) ∧ (∀ q, q < 16 → σ.1 37 0 (16 * p + q) = gpg σ p q ∧ (gpg σ p q = -1 ∨ ∃ n, n ≤ 255 ∧ gpg σ p q = nI n)) ∧ gLs σ p
def gRt (σ : gT) : Prop := ∃ n, n ≤ 400 ∧ σ.1 7 0 1 = nI n ∧ σ.1 10 0 10 = nI n ∧ ∀ q, q < n → ∃ b, b < 256 ∧ σ.1 22 0 q = (nI b).toInt8.toInt32 ∧ σ.1 35 0 q = nI b
def gRa (σ : gT) : Prop := ∃ n, n ≤ 16 ∧ σ.1 0 0 1 = nI n ∧ σ.1 10 0 24 = nI n ∧ ∀ q, q < n → σ.1 38 0 q = σ.1 11 0 q
def gRf (σ : gT) : Prop := σ.1 10 0 11 = σ.1 9 0 9
def gRz (σ : gT) : Prop := σ.1 10 0 1 = σ.1 9 0 10
def gR (σ : gT) : Prop := gRs σ ∧ gRw σ ∧ gRp σ ∧ gRt σ ∧ gRa σ ∧ gRf σ ∧ gRz σ
-- each part speaks of its own families alone
theorem gRs_su {σ : gT} {f i j : Nat} {x : Int32} (h : f ≠ 6 ∧ f ≠ 21 ∧ f ≠ 28 ∧ f ≠ 29 ∧ f ≠ 30) : gRs (gsu σ f i j x) ↔ gRs σ := by
  have e : ∀ a b c, (a = 6 ∨ a = 21 ∨ a = 28 ∨ a = 29 ∨ a = 30) → (gsu σ f i j x).1 a b c = σ.1 a b c := fun a b c ha => by
    rw [gsu_1, if_neg]; rintro ⟨rfl, -⟩; omega
  unfold gRs
  simp only [e _ _ _ (Or.inl rfl), e 21 _ _ (by decide), e 28 _ _ (by decide), e 29 _ _ (by decide), e 30 _ _ (by decide)]
theorem gRw_su {σ : gT} {f i j : Nat} {x : Int32} (h : f ≠ 23 ∧ f ≠ 24 ∧ f ≠ 31 ∧ f ≠ 32) : gRw (gsu σ f i j x) ↔ gRw σ := by
  have e : ∀ a b c, (a = 23 ∨ a = 24 ∨ a = 31 ∨ a = 32) → (gsu σ f i j x).1 a b c = σ.1 a b c := fun a b c ha => by
    rw [gsu_1, if_neg]; rintro ⟨rfl, -⟩; omega
  unfold gRw
  simp only [e 23 _ _ (by decide), e 24 _ _ (by decide), e 31 _ _ (by decide), e 32 _ _ (by decide)]
theorem gRp_su {σ : gT} {f i j : Nat} {x : Int32} (h : f ≠ 3 ∧ f ≠ 17 ∧ f ≠ 36 ∧ f ≠ 37) : gRp (gsu σ f i j x) ↔ gRp σ := by
  have e : ∀ a b c, (a = 3 ∨ a = 17 ∨ a = 36 ∨ a = 37) → (gsu σ f i j x).1 a b c = σ.1 a b c := fun a b c ha => by
    rw [gsu_1, if_neg]; rintro ⟨rfl, -⟩; omega
  unfold gRp gLs gpg
  simp only [e 3 _ _ (by decide), e 17 _ _ (by decide), e 36 _ _ (by decide), e 37 _ _ (by decide)]
theorem gRt_su {σ : gT} {f i j : Nat} {x : Int32} (h : (f ≠ 7 ∨ j ≠ 1) ∧ (f ≠ 10 ∨ j ≠ 10) ∧ f ≠ 22 ∧ f ≠ 35) : gRt (gsu σ f i j x) ↔ gRt σ := by
  have e1 : (gsu σ f i j x).1 7 0 1 = σ.1 7 0 1 := by rw [gsu_1, if_neg]; rintro ⟨rfl, -, rfl⟩; omega
  have e2 : (gsu σ f i j x).1 10 0 10 = σ.1 10 0 10 := by rw [gsu_1, if_neg]; rintro ⟨rfl, -, rfl⟩; omega
  have e3 : ∀ a b c, (a = 22 ∨ a = 35) → (gsu σ f i j x).1 a b c = σ.1 a b c := fun a b c ha => by
    rw [gsu_1, if_neg]; rintro ⟨rfl, -⟩; omega
  unfold gRt
  simp only [e1, e2, e3 22 _ _ (by decide), e3 35 _ _ (by decide)]
theorem gRa_su {σ : gT} {f i j : Nat} {x : Int32} (h : (f ≠ 0 ∨ j ≠ 1) ∧ (f ≠ 10 ∨ j ≠ 24) ∧ f ≠ 11 ∧ f ≠ 38) : gRa (gsu σ f i j x) ↔ gRa σ := by
  have e1 : (gsu σ f i j x).1 0 0 1 = σ.1 0 0 1 := by rw [gsu_1, if_neg]; rintro ⟨rfl, -, rfl⟩; omega
  have e2 : (gsu σ f i j x).1 10 0 24 = σ.1 10 0 24 := by rw [gsu_1, if_neg]; rintro ⟨rfl, -, rfl⟩; omega
  have e3 : ∀ a b c, (a = 11 ∨ a = 38) → (gsu σ f i j x).1 a b c = σ.1 a b c := fun a b c ha => by
    rw [gsu_1, if_neg]; rintro ⟨rfl, -⟩; omega
  unfold gRa
  simp only [e1, e2, e3 11 _ _ (by decide), e3 38 _ _ (by decide)]
theorem gRf_su {σ : gT} {f i j : Nat} {x : Int32} (h : (f ≠ 9 ∨ j ≠ 9) ∧ (f ≠ 10 ∨ j ≠ 11)) : gRf (gsu σ f i j x) ↔ gRf σ := by
  have e1 : (gsu σ f i j x).1 9 0 9 = σ.1 9 0 9 := by rw [gsu_1, if_neg]; rintro ⟨rfl, -, rfl⟩; omega
  have e2 : (gsu σ f i j x).1 10 0 11 = σ.1 10 0 11 := by rw [gsu_1, if_neg]; rintro ⟨rfl, -, rfl⟩; omega
  unfold gRf
  rw [e1, e2]
theorem gRz_su {σ : gT} {f i j : Nat} {x : Int32} (h : (f ≠ 9 ∨ j ≠ 10) ∧ (f ≠ 10 ∨ j ≠ 1)) : gRz (gsu σ f i j x) ↔ gRz σ := by
  have e1 : (gsu σ f i j x).1 9 0 10 = σ.1 9 0 10 := by rw [gsu_1, if_neg]; rintro ⟨rfl, -, rfl⟩; omega
  have e2 : (gsu σ f i j x).1 10 0 1 = σ.1 10 0 1 := by rw [gsu_1, if_neg]; rintro ⟨rfl, -, rfl⟩; omega
  unfold gRz
  rw [e1, e2]
theorem gRz_set {σ : gT} {x : Int32} : gRz (gsu (gsu σ 9 0 10 x) 10 0 1 x) := rfl
/-- a scratch write of the model, and one of status -/
theorem gR_thrown {σ : gT} {x : Int32} (h : gR σ) : gR (gsu σ 10 0 0 x) := by
  unfold gR
  rw [gRs_su (by decide), gRw_su (by decide), gRp_su (by decide), gRt_su (by decide), gRa_su (by decide), gRf_su (by decide), gRz_su (by decide)]
  exact h
-- the small tests
theorem u_below_in {j N : Nat} {σ : gT} {k : Int32 → gT → Prop} (hj : j < N) (hN : N < 2 ^ 31) : wX9_below (nI j) (nI N) σ k ↔ k 1 σ := by
  unfold wX9_below wX9_below_13
  have h1 : ¬ nI j < 0 := nI_pos (by omega)
  have h2 : ¬ nI N ≤ nI j := nI_ge hj hN
  constructor
  · intro h; exact ((h.2 h1).2 h2).2
  · intro h; exact ⟨fun z => absurd z h1, fun _ => ⟨fun z => absurd z h2, fun _ => ⟨Or.inr rfl, h⟩⟩⟩
theorem u_below_out {x b : Int32} {σ : gT} {k : Int32 → gT → Prop} (hx : x < 0 ∨ b ≤ x) : wX9_below x b σ k ↔ k 0 σ := by
  unfold wX9_below wX9_below_13
  by_cases h1 : x < 0
  · exact ⟨fun h => (h.1 h1).2, fun h => ⟨fun _ => ⟨Or.inl rfl, h⟩, fun z => absurd h1 z⟩⟩
  · have h2 : b ≤ x := hx.resolve_left h1
    exact ⟨fun h => ((h.2 h1).1 h2).2, fun h => ⟨fun z => absurd z h1, fun _ => ⟨fun _ => ⟨Or.inl rfl, h⟩, fun z => absurd h2 z⟩⟩⟩
theorem u_isSheet_in {j : Nat} {σ : gT} {k : Int32 → gT → Prop} (hj : j < 8) : wX9_isSheet (nI j) σ k ↔ k 1 σ := by
  unfold wX9_isSheet
  rw [show (8 : Int32) = nI 8 from rfl, u_below_in hj (by decide)]
  exact ⟨fun h => h.2, fun h => ⟨Or.inr rfl, h⟩⟩
theorem u_isSheet_out {x : Int32} {σ : gT} {k : Int32 → gT → Prop} (hx : x < 0 ∨ nI 8 ≤ x) : wX9_isSheet x σ k ↔ k 0 σ := by
  unfold wX9_isSheet
  rw [show (8 : Int32) = nI 8 from rfl, u_below_out hx]
  exact ⟨fun h => h.2, fun h => ⟨Or.inl rfl, h⟩⟩
theorem u_isWave_in {j : Nat} {σ : gT} {k : Int32 → gT → Prop} (hj : j < 8) : wX9_isWave (nI j) σ k ↔ k 1 σ := u_isSheet_in hj
theorem u_isWave_out {x : Int32} {σ : gT} {k : Int32 → gT → Prop} (hx : x < 0 ∨ nI 8 ≤ x) : wX9_isWave x σ k ↔ k 0 σ := u_isSheet_out hx
theorem u_isPlate_in {j : Nat} {σ : gT} {k : Int32 → gT → Prop} (hj : j < 6) : wX9_isPlate (nI j) σ k ↔ k 1 σ := by
  unfold wX9_isPlate
  rw [show (6 : Int32) = nI 6 from rfl, u_below_in hj (by decide)]
  exact ⟨fun h => h.2, fun h => ⟨Or.inr rfl, h⟩⟩
theorem u_isPlate_out {x : Int32} {σ : gT} {k : Int32 → gT → Prop} (hx : x < 0 ∨ nI 6 ≤ x) : wX9_isPlate x σ k ↔ k 0 σ := by
  unfold wX9_isPlate
  rw [show (6 : Int32) = nI 6 from rfl, u_below_out hx]
  exact ⟨fun h => h.2, fun h => ⟨Or.inl rfl, h⟩⟩
theorem v_in_in {y lo hi : Int64} {σ : gT} {k : Int32 → gT → Prop} (h1 : lo ≤ y) (h2 : y ≤ hi) : wX10_in y lo hi σ k ↔ k 1 σ := by
  unfold wX10_in wX10_in_17
  rw [cmp_lt0, cmp_gt0]
  rw [fa_le64] at h1 h2
  have c1 : ¬ y < lo := by rw [fa_lt64]; omega
  have c2 : ¬ hi < y := by rw [fa_lt64]; omega
  exact ⟨fun h => ((h.2 c1).2 c2).2, fun h => ⟨fun z => absurd z c1, fun _ => ⟨fun z => absurd z c2, fun _ => ⟨Or.inr rfl, h⟩⟩⟩⟩
theorem v_in_out {y lo hi : Int64} {σ : gT} {k : Int32 → gT → Prop} (hx : y < lo ∨ hi < y) : wX10_in y lo hi σ k ↔ k 0 σ := by
  unfold wX10_in wX10_in_17
  rw [cmp_lt0, cmp_gt0]
  by_cases c1 : y < lo
  · exact ⟨fun h => (h.1 c1).2, fun h => ⟨fun _ => ⟨Or.inl rfl, h⟩, fun z => absurd c1 z⟩⟩
  · have c2 := hx.resolve_left c1
    exact ⟨fun h => ((h.2 c1).1 c2).2, fun h => ⟨fun z => absurd z c1, fun _ => ⟨fun _ => ⟨Or.inl rfl, h⟩, fun z => absurd c2 z⟩⟩⟩
/-- the model's test of an int between 0 and N - 1 -/
theorem v_inN {j N : Nat} {hi : Int64} {σ : gT} {k : Int32 → gT → Prop} (hj : j < N) (hN : N < 2 ^ 31) (e : hi = lN (N - 1)) : wX10_in (nI j).toInt64 (0 : Int64) hi σ k ↔ k 1 σ := by
  refine v_in_in ?_ ?_
  · rw [nI_l (by omega), show (0 : Int64) = lN 0 from rfl, pk_lLE (by omega) (by omega)]
    omega
  · rw [e, nI_l (by omega), pk_lLE (by omega) (by omega)]
    omega
theorem v_outN {x : Int32} {N : Nat} {hi : Int64} {σ : gT} {k : Int32 → gT → Prop} (hN0 : 0 < N) (hN : N < 2 ^ 31) (e : hi = lN (N - 1)) (hx : x < 0 ∨ nI N ≤ x) : wX10_in x.toInt64 (0 : Int64) hi σ k ↔ k 0 σ := by
  refine v_in_out ?_
  rw [e]
  rcases hx with h | h
  · left
    rw [show (0 : Int64) = (0 : Int32).toInt64 from rfl, fa_wide_lt]
    exact h
  · right
    rw [← nI_l (by omega), fa_wide_lt, fa_lt, nI_toInt (by omega)]
    rw [fa_le, nI_toInt (by omega)] at h
    omega
theorem v_isSheet_in {j : Nat} {σ : gT} {k : Int32 → gT → Prop} (hj : j < 8) : wX10_isSheet (nI j) σ k ↔ k 1 σ := by
  unfold wX10_isSheet
  rw [v_inN (hi := 7) hj (by decide) rfl]
  exact ⟨fun h => h.2, fun h => ⟨Or.inr rfl, h⟩⟩
theorem v_isSheet_out {x : Int32} {σ : gT} {k : Int32 → gT → Prop} (hx : x < 0 ∨ nI 8 ≤ x) : wX10_isSheet x σ k ↔ k 0 σ := by
  unfold wX10_isSheet
  rw [v_outN (hi := 7) (N := 8) (by decide) (by decide) rfl hx]
  exact ⟨fun h => h.2, fun h => ⟨Or.inl rfl, h⟩⟩
theorem v_isWave_in {j : Nat} {σ : gT} {k : Int32 → gT → Prop} (hj : j < 8) : wX10_isWave (nI j) σ k ↔ k 1 σ := v_isSheet_in hj
theorem v_isWave_out {x : Int32} {σ : gT} {k : Int32 → gT → Prop} (hx : x < 0 ∨ nI 8 ≤ x) : wX10_isWave x σ k ↔ k 0 σ := v_isSheet_out hx
theorem v_isPlate_in {j : Nat} {σ : gT} {k : Int32 → gT → Prop} (hj : j < 6) : wX10_isPlate (nI j) σ k ↔ k 1 σ := by
  unfold wX10_isPlate
  rw [v_inN (hi := 5) hj (by decide) rfl]
  exact ⟨fun h => h.2, fun h => ⟨Or.inr rfl, h⟩⟩
theorem v_isPlate_out {x : Int32} {σ : gT} {k : Int32 → gT → Prop} (hx : x < 0 ∨ nI 6 ≤ x) : wX10_isPlate x σ k ↔ k 0 σ := by
  unfold wX10_isPlate
  rw [v_outN (hi := 5) (N := 6) (by decide) (by decide) rfl hx]
  exact ⟨fun h => h.2, fun h => ⟨Or.inl rfl, h⟩⟩
theorem v_isPlace_in {j : Nat} {σ : gT} {k : Int32 → gT → Prop} (hj : j < 16) : wX10_isPlace (nI j) σ k ↔ k 1 σ := by
  unfold wX10_isPlace
  rw [v_inN (hi := 15) hj (by decide) rfl]
  exact ⟨fun h => h.2, fun h => ⟨Or.inr rfl, h⟩⟩
theorem v_isPlace_out {x : Int32} {σ : gT} {k : Int32 → gT → Prop} (hx : x < 0 ∨ nI 16 ≤ x) : wX10_isPlace x σ k ↔ k 0 σ := by
  unfold wX10_isPlace
  rw [v_outN (hi := 15) (N := 16) (by decide) (by decide) rfl hx]
  exact ⟨fun h => h.2, fun h => ⟨Or.inl rfl, h⟩⟩
theorem ixc {x : Int32} (n : Nat) (hn : n < 2 ^ 31) : (x < 0 ∨ nI n ≤ x) ∨ ∃ j : Nat, j < n ∧ x = nI j := by
  rcases pk_ix x hn with h | h | h
  · exact Or.inl (Or.inl h)
  · exact Or.inl (Or.inr h)
  · exact Or.inr h
theorem if1 {P Q : Prop} : ((1 : Int32) = 0 → P) ∧ (¬ (1 : Int32) = 0 → Q) ↔ Q := ⟨fun h => h.2 (by decide), fun h => ⟨fun z => absurd z (by decide), fun _ => h⟩⟩
theorem if0 {P Q : Prop} : ((0 : Int32) = 0 → P) ∧ (¬ (0 : Int32) = 0 → Q) ↔ P := ⟨fun h => h.1 rfl, fun h => ⟨fun _ => h, fun z => absurd rfl z⟩⟩
theorem if1n {P Q : Prop} : (¬ (1 : Int32) = 0 → P) ∧ ((1 : Int32) = 0 → Q) ↔ P := ⟨fun h => h.1 (by decide), fun h => ⟨fun _ => h, fun z => absurd z (by decide)⟩⟩
theorem if0n {P Q : Prop} : (¬ (0 : Int32) = 0 → P) ∧ ((0 : Int32) = 0 → Q) ↔ Q := ⟨fun h => h.2 rfl, fun h => ⟨fun z => absurd rfl z, fun _ => h⟩⟩
