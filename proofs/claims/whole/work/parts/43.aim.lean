/-! PURE: aim -/
def gaT (P Q k : Nat) : Nat := (P * (k % 4) + Q * (k / 4)) % 4
theorem gaT_c : ∀ P : Fin 7, ∀ Q : Fin 7, ∀ k : Fin 16, ((nI P * (nI k &&& (3 : Int32))) + (nI Q * (nI k >>> ((2 : Int32) &&& (31 : Int32))))) &&& (3 : Int32) = nI (gaT P Q k) := by decide +kernel
theorem gaT_m : ∀ P : Fin 7, ∀ Q : Fin 7, ∀ k : Fin 16, (((nI P * (nI k - nI k / (4 : Int32) * (4 : Int32))) + (nI Q * (nI k / (4 : Int32)))) - ((nI P * (nI k - nI k / (4 : Int32) * (4 : Int32))) + (nI Q * (nI k / (4 : Int32)))) / (4 : Int32) * (4 : Int32)) = nI (gaT P Q k) := by decide +kernel
def gps (P Q : Nat) (t : Int32) : Nat → Int32
  | 0 => 0
  | n + 1 => if nI (gaT P Q n) = t then gps P Q t n ||| ((1 : Int32) <<< (nI n &&& (31 : Int32))) else gps P Q t n
set_option maxHeartbeats 1000000 in
theorem u_places {P Q : Nat} {t : Int32} {σ : gT} {k : Int32 → gT → Prop} (hP : P < 7) (hQ : Q < 7) (h : k (gps P Q t 16) σ) : wX9_placesTurned (nI P) (nI Q) t σ k := by
  unfold wX9_placesTurned
  refine gloop (N := 16) (fun m j => wX9_placesTurned_5 k m (nI P) (nI Q) t (gps P Q t j) (nI j) σ) ?_ ?_
  · unfold wX9_placesTurned_5
    exact ⟨fun _ => h, fun z => absurd (by decide) z⟩
  · intro n j hj hn
    have e : gps P Q t (j + 1) = if nI (gaT P Q j) = t then gps P Q t j ||| ((1 : Int32) <<< (nI j &&& (31 : Int32))) else gps P Q t j := rfl
    rw [e] at hn
    unfold wX9_placesTurned_5 wX9_placesTurned_30 wX9_lean
    rw [nI_1, gaT_c ⟨P, hP⟩ ⟨Q, hQ⟩ ⟨j, hj⟩]
    refine ⟨fun z => absurd z (nI_ge (b := 16) hj (by decide)), fun _ => ⟨fun c => ?_, fun c => ?_⟩⟩
    · rw [if_neg c] at hn; exact hn
    · rw [if_pos c] at hn; exact hn
def gcd1 (P Q : Nat) (t u : Int32) : Int32 × Int32 := (gbc (gps P Q t 16) * gbc (gps P Q t 16) + gbc (gps P Q u 16) * gbc (gps P Q u 16), gps P Q t 16 ||| gps P Q u 16)
def gstp (s c : Int32 × Int32) : Int32 × Int32 := if s.1 < c.1 then c else if c.1 = s.1 then (if s.2 ≤ c.2 then s else c) else s
def gans (P Q : Nat) : Int32 × Int32 := gstp (gstp (gstp (gstp (-1, 0) (gcd1 P Q 0 1)) (gcd1 P Q 0 3)) (gcd1 P Q 2 1)) (gcd1 P Q 2 3)
theorem u_aim_step {p q u v : Nat} {x5 t c : Int32} {s : Int32 × Int32} {n : Nat} {σ : gT} {k : Int32 → gT → Prop} {K54 : Int32 → Int32 → Int32 → Int32 → Int32 → Int32 → Int32 → Int32 → gT → Prop} (hP : p + u < 7) (hQ : q + v < 7) (hc : ¬ (4 : Int32) ≤ c) (h : wX9_aim_63 K54 k n (nI p) (nI q) (nI u) (nI v) x5 (gstp s (gcd1 (p + u) (q + v) t c)).1 (gstp s (gcd1 (p + u) (q + v) t c)).2 t (c + 2) σ) : wX9_aim_63 K54 k (n + 1) (nI p) (nI q) (nI u) (nI v) x5 s.1 s.2 t c σ := by
  unfold wX9_aim_63 wX9_aim_140 wX9_aim_151 wX9_square
  rw [nI_add, nI_add]
  refine ⟨fun z => absurd z hc, fun _ => u_places hP hQ (u_places hP hQ (u_bc.mpr (u_bc.mpr ?_)))⟩
  unfold gstp gcd1 at h
  dsimp only at h
  refine ⟨fun c1 => ?_, fun c1 => ⟨fun c2 => ?_, fun c2 => ⟨fun c3 => ?_, fun c3 => ?_⟩⟩⟩
  · rw [if_pos c1] at h; exact h
  · rw [if_neg c1, if_neg c2] at h; exact h
  · rw [if_neg c1, if_pos c2, if_pos c3] at h; exact h
  · rw [if_neg c1, if_pos c2, if_neg c3] at h; exact h
set_option maxHeartbeats 1000000 in
theorem u_aim {p q u v : Nat} {x5 : Int32} {σ : gT} {k : Int32 → gT → Prop} (hP : p + u < 7) (hQ : q + v < 7) (h : (¬ x5 = 0 → k (gans (p + u) (q + v)).2 σ) ∧ (x5 = 0 → k (gans (p + u) (q + v)).1 σ)) : ∃ n, wX9_aim_54 k n (nI p) (nI q) (nI u) (nI v) x5 (-1) 0 0 σ := by
  refine ⟨3, ?_⟩
  unfold wX9_aim_54
  refine ⟨fun z => absurd z (by decide), fun _ => ⟨3, ?_⟩⟩
  refine u_aim_step (s := (-1, 0)) hP hQ (by decide) (u_aim_step hP hQ (by decide) ?_)
  unfold wX9_aim_63
  refine ⟨fun _ => ?_, fun z => absurd (by decide) z⟩
  unfold wX9_aim_54
  refine ⟨fun z => absurd z (by decide), fun _ => ⟨3, ?_⟩⟩
  refine u_aim_step hP hQ (by decide) (u_aim_step hP hQ (by decide) ?_)
  unfold wX9_aim_63
  refine ⟨fun _ => ?_, fun z => absurd (by decide) z⟩
  unfold wX9_aim_54
  exact ⟨fun _ => h, fun z => absurd (by decide) z⟩
/-- what a set sends: the sum of those turned by i less those turned by j -/
def gsgn (i j : Nat) (T : Nat → Nat) (β : Nat → Bool) (k : Nat) : Int := if β k = true then (if T k = i then 1 else if T k = j then -1 else 0) else 0
def gsnd (i j : Nat) (T : Nat → Nat) (β : Nat → Bool) : Nat → Int
  | 0 => 0
  | n + 1 => gsnd i j T β n + gsgn i j T β n
def gcn4 (T : Nat → Nat) (i n : Nat) : Nat := gct (fun k => decide (T k = i)) n
set_option maxHeartbeats 1000000 in
theorem gsnd_bd {i j : Nat} {T : Nat → Nat} {β : Nat → Bool} (hij : i ≠ j) : ∀ n, (-(gcn4 T j n : Int) ≤ gsnd i j T β n ∧ gsnd i j T β n ≤ gcn4 T i n) ∧ (gsnd i j T β n = gcn4 T i n → ∀ k, k < n → (T k = i → β k = true) ∧ (T k = j → β k = false)) ∧ (gsnd i j T β n = -(gcn4 T j n : Int) → ∀ k, k < n → (T k = i → β k = false) ∧ (T k = j → β k = true))
  | 0 => ⟨⟨(by show (-((0 : Nat) : Int)) ≤ 0; decide), (by show (0 : Int) ≤ ((0 : Nat) : Int); decide)⟩, fun _ k hk => absurd hk (Nat.not_lt_zero k), fun _ k hk => absurd hk (Nat.not_lt_zero k)⟩
  | n + 1 => by
    obtain ⟨⟨b1, b2⟩, h1, h2⟩ := gsnd_bd (T := T) (β := β) hij n
    have e : gsnd i j T β (n + 1) = gsnd i j T β n + gsgn i j T β n := rfl
    have ei : gcn4 T i (n + 1) = gcn4 T i n + (if T n = i then 1 else 0) := by
      unfold gcn4
      rw [gct_s]
      congr 1
      by_cases c : T n = i
      · rw [if_pos c, if_pos (by simpa using c)]
      · rw [if_neg c, if_neg (by simpa using c)]
    have ej : gcn4 T j (n + 1) = gcn4 T j n + (if T n = j then 1 else 0) := by
      unfold gcn4
      rw [gct_s]
      congr 1
      by_cases c : T n = j
      · rw [if_pos c, if_pos (by simpa using c)]
      · rw [if_neg c, if_neg (by simpa using c)]
    rw [e, ei, ej]
    unfold gsgn
    by_cases ci : T n = i
    · have cj : ¬ T n = j := fun z => hij (ci.symm.trans z)
      simp only [if_pos ci, if_neg cj]
      by_cases cb : β n = true
      · simp only [if_pos cb]
        refine ⟨⟨by omega, by omega⟩, fun hz k hk => ?_, fun hz => ?_⟩
        · rcases Nat.lt_or_ge k n with y | y
          · exact h1 (by omega) k y
          · have hk : k = n := by omega
            subst hk
            exact ⟨fun _ => cb, fun z => absurd z cj⟩
        · exact absurd hz (by omega)
      · simp only [if_neg cb]
        refine ⟨⟨by omega, by omega⟩, fun hz => absurd hz (by omega), fun hz k hk => ?_⟩
        rcases Nat.lt_or_ge k n with y | y
        · exact h2 (by omega) k y
        · have hk : k = n := by omega
          subst hk
          exact ⟨fun _ => by simpa using cb, fun z => absurd z cj⟩
    · by_cases cj : T n = j
      · simp only [if_neg ci, if_pos cj]
        by_cases cb : β n = true
        · simp only [if_pos cb]
          refine ⟨⟨by omega, by omega⟩, fun hz => absurd hz (by omega), fun hz k hk => ?_⟩
          rcases Nat.lt_or_ge k n with y | y
          · exact h2 (by omega) k y
          · have hk : k = n := by omega
            subst hk
            exact ⟨fun z => absurd z ci, fun _ => cb⟩
        · simp only [if_neg cb]
          refine ⟨⟨by omega, by omega⟩, fun hz k hk => ?_, fun hz => absurd hz (by omega)⟩
          rcases Nat.lt_or_ge k n with y | y
          · exact h1 (by omega) k y
          · have hk : k = n := by omega
            subst hk
            exact ⟨fun z => absurd z ci, fun _ => by simpa using cb⟩
      · simp only [if_neg ci, if_neg cj, ite_self]
        refine ⟨⟨by omega, by omega⟩, fun hz k hk => ?_, fun hz k hk => ?_⟩
        · rcases Nat.lt_or_ge k n with y | y
          · exact h1 (by omega) k y
          · have hk : k = n := by omega
            subst hk
            exact ⟨fun z => absurd z ci, fun z => absurd z cj⟩
        · rcases Nat.lt_or_ge k n with y | y
          · exact h2 (by omega) k y
          · have hk : k = n := by omega
            subst hk
            exact ⟨fun z => absurd z ci, fun z => absurd z cj⟩
def gnum (β : Nat → Bool) : Nat → Nat
  | 0 => 0
  | n + 1 => gnum β n + 2 ^ n * (β n).toNat
theorem gnum_cong {β γ : Nat → Bool} : ∀ {n : Nat}, (∀ k, k < n → β k = γ k) → gnum β n = gnum γ n
  | 0, _ => rfl
  | n + 1, h => by
    show gnum β n + 2 ^ n * (β n).toNat = gnum γ n + 2 ^ n * (γ n).toNat
    rw [gnum_cong (fun k hk => h k (by omega)), h n (by omega)]
theorem gnum_bits (m : Nat) : ∀ n, gnum (fun k => m.testBit k) n = m % 2 ^ n
  | 0 => by rw [Nat.pow_zero, Nat.mod_one]; rfl
  | n + 1 => by
    show gnum (fun k => m.testBit k) n + 2 ^ n * (m.testBit n).toNat = _
    rw [gnum_bits m n, Nat.mod_pow_succ, Nat.toNat_testBit]
/-- the greatest that is sent, and the least set that sends it -/
def gbst (T : Nat → Nat) (V m : Nat) : Bool := decide ((0 < V ∧ V ≤ 1000 ∧ 1 ≤ m ∧ m < 65536) ∧ gsnd 0 2 T (fun k => m.testBit k) 16 * gsnd 0 2 T (fun k => m.testBit k) 16 + gsnd 1 3 T (fun k => m.testBit k) 16 * gsnd 1 3 T (fun k => m.testBit k) 16 = V ∧ V = max (gcn4 T 0 16) (gcn4 T 2 16) * max (gcn4 T 0 16) (gcn4 T 2 16) + max (gcn4 T 1 16) (gcn4 T 3 16) * max (gcn4 T 1 16) (gcn4 T 3 16) ∧ (gcn4 T 0 16 = max (gcn4 T 0 16) (gcn4 T 2 16) → gcn4 T 1 16 = max (gcn4 T 1 16) (gcn4 T 3 16) → m ≤ gnum (fun k => decide (T k = 0 ∨ T k = 1)) 16) ∧ (gcn4 T 0 16 = max (gcn4 T 0 16) (gcn4 T 2 16) → gcn4 T 3 16 = max (gcn4 T 1 16) (gcn4 T 3 16) → m ≤ gnum (fun k => decide (T k = 0 ∨ T k = 3)) 16) ∧ (gcn4 T 2 16 = max (gcn4 T 0 16) (gcn4 T 2 16) → gcn4 T 1 16 = max (gcn4 T 1 16) (gcn4 T 3 16) → m ≤ gnum (fun k => decide (T k = 2 ∨ T k = 1)) 16) ∧ (gcn4 T 2 16 = max (gcn4 T 0 16) (gcn4 T 2 16) → gcn4 T 3 16 = max (gcn4 T 1 16) (gcn4 T 3 16) → m ≤ gnum (fun k => decide (T k = 2 ∨ T k = 3)) 16))
theorem gans_ok : ∀ P : Fin 7, ∀ Q : Fin 7, (gans P Q).1 = nI (gans P Q).1.toNatClampNeg ∧ (gans P Q).2 = nI (gans P Q).2.toNatClampNeg ∧ gbst (gaT P Q) (gans P Q).1.toNatClampNeg (gans P Q).2.toNatClampNeg = true := by decide +kernel
