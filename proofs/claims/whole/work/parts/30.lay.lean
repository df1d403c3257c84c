/-! PURE: lay -/
theorem gw9_f {σ : gT} {w n : Nat} {A B : Nat → Int64} {a b c : Nat} (h1 : a ≠ 23) (h2 : a ≠ 24) : (gw9 σ w A B n).1 a b c = σ.1 a b c := by
  unfold gw9
  rw [grw_f h2, grw_f h1]
theorem gw10_f {σ : gT} {w n : Nat} {A B : Nat → Int64} {a b c : Nat} (h1 : a ≠ 31) (h2 : a ≠ 32) : (gw10 σ w A B n).1 a b c = σ.1 a b c := by
  unfold gw10
  rw [grw_f h2, grw_f h1]
set_option maxHeartbeats 1000000 in
/-- both sides' wave w become the same fitting parts; the rest of the two stores agrees with σ's, but scratch -/
theorem gR_wave {σ τ : gT} {w : Nat} {A B : Nat → Int64} (h : gR σ) (hw : w < 8) (hf : gfit A B) (h23 : ∀ v q, v < 8 → q < 16 → τ.1 23 v q = if v = w then (A q).toInt32 else σ.1 23 v q) (h24 : ∀ v q, v < 8 → q < 16 → τ.1 24 v q = if v = w then (B q).toInt32 else σ.1 24 v q) (h31 : ∀ v q, v < 8 → q < 16 → τ.1 31 0 (16 * v + q) = if v = w then (A q).toInt32 else σ.1 31 0 (16 * v + q)) (h32 : ∀ v q, v < 8 → q < 16 → τ.1 32 0 (16 * v + q) = if v = w then (B q).toInt32 else σ.1 32 0 (16 * v + q)) : gRw τ := by
  have key : ∀ x : Int64, -1000000 ≤ x.toInt → x.toInt ≤ 1000000 → x.toInt32.toInt = x.toInt := by
    intro x h1 h2
    rw [Int64.toInt_toInt32, Int.bmod_def]
    omega
  intro v hv q hq
  rw [h23 v q hv hq, h24 v q hv hq, h31 v q hv hq, h32 v q hv hq]
  by_cases e : v = w
  · rw [if_pos e, if_pos e, if_pos e, if_pos e]
    obtain ⟨⟨a1, a2⟩, b1, b2⟩ := hf q hq
    rw [key _ a1 a2, key _ b1 b2]
    exact ⟨rfl, rfl, ⟨a1, a2⟩, b1, b2⟩
  · rw [if_neg e, if_neg e, if_neg e, if_neg e]
    exact h.2.1 v hv q hq
theorem gw9_23 {σ : gT} {w v q : Nat} {A B : Nat → Int64} (hq : q < 16) : (gw9 σ w A B 16).1 23 v q = if v = w then (A q).toInt32 else σ.1 23 v q := by
  unfold gw9
  rw [grw_f (by decide)]
  by_cases e : v = w
  · subst e
    rw [if_pos rfl, grw_in0 hq]
  · rw [if_neg e, grw_out (fun z => e z.1)]
theorem gw9_24 {σ : gT} {w v q : Nat} {A B : Nat → Int64} (hq : q < 16) : (gw9 σ w A B 16).1 24 v q = if v = w then (B q).toInt32 else σ.1 24 v q := by
  unfold gw9
  by_cases e : v = w
  · subst e
    rw [if_pos rfl, grw_in0 hq]
  · rw [if_neg e, grw_out (fun z => e z.1), grw_f (by decide)]
theorem gw10_31 {σ : gT} {w v q : Nat} {A B : Nat → Int64} (hq : q < 16) : (gw10 σ w A B 16).1 31 0 (16 * v + q) = if v = w then (A q).toInt32 else σ.1 31 0 (16 * v + q) := by
  unfold gw10
  rw [grw_f (by decide)]
  by_cases e : v = w
  · subst e
    rw [if_pos rfl, grw_in hq]
  · rw [if_neg e, grw_out (by omega)]
theorem gw10_32 {σ : gT} {w v q : Nat} {A B : Nat → Int64} (hq : q < 16) : (gw10 σ w A B 16).1 32 0 (16 * v + q) = if v = w then (B q).toInt32 else σ.1 32 0 (16 * v + q) := by
  unfold gw10
  by_cases e : v = w
  · subst e
    rw [if_pos rfl, grw_in hq]
  · rw [if_neg e, grw_out (by omega), grw_f (by decide)]
/-- two rows of longs, written -/
def gd2 (σ : gT) (f f2 : Nat) (A B : Nat → Int64) (n : Nat) : gT := (σ.1, fun a b c => if a = f ∧ b = 0 ∧ c < n then A c else if a = f2 ∧ b = 0 ∧ c < n then B c else σ.2 a b c)
theorem gd2_0 {σ : gT} {f f2 : Nat} {A B : Nat → Int64} : gd2 σ f f2 A B 0 = σ := by
  unfold gd2
  refine Prod.ext rfl ?_
  funext a b c
  dsimp only
  rw [if_neg (by omega), if_neg (by omega)]
set_option maxHeartbeats 1000000 in
theorem gd2_s {σ : gT} {f f2 n : Nat} {A B : Nat → Int64} (hf : f ≠ f2) : gsl (gsl (gd2 σ f f2 A B n) f 0 n (A n)) f2 0 n (B n) = gd2 σ f f2 A B (n + 1) := by
  refine Prod.ext rfl ?_
  funext a b c
  rw [gsl_2, gsl_2]
  unfold gd2
  dsimp only
  by_cases h1 : a = f2 ∧ b = 0 ∧ c = n
  · rw [if_pos h1, if_neg (fun z => hf (z.1.symm.trans h1.1)), if_pos ⟨h1.1, h1.2.1, by omega⟩, h1.2.2]
  · rw [if_neg h1]
    by_cases h2 : a = f ∧ b = 0 ∧ c = n
    · rw [if_pos h2, if_pos ⟨h2.1, h2.2.1, by omega⟩, h2.2.2]
    · rw [if_neg h2]
      by_cases h3 : a = f ∧ b = 0 ∧ c < n
      · rw [if_pos h3, if_pos ⟨h3.1, h3.2.1, by omega⟩]
      · rw [if_neg h3]
        by_cases h4 : a = f2 ∧ b = 0 ∧ c < n
        · rw [if_pos h4, if_neg (fun z => hf (z.1.symm.trans h4.1)), if_pos ⟨h4.1, h4.2.1, by omega⟩]
        · rw [if_neg h4, if_neg, if_neg]
          · rintro ⟨z1, z2, z3⟩
            by_cases z4 : c = n
            · exact h1 ⟨z1, z2, z4⟩
            · exact h4 ⟨z1, z2, by omega⟩
          · rintro ⟨z1, z2, z3⟩
            by_cases z4 : c = n
            · exact h2 ⟨z1, z2, z4⟩
            · exact h3 ⟨z1, z2, by omega⟩
theorem gd2_at {σ : gT} {f f2 n q : Nat} {A B : Nat → Int64} (hf : f ≠ f2) (hq : q < n) : (gd2 σ f f2 A B n).2 f 0 q = A q ∧ (gd2 σ f f2 A B n).2 f2 0 q = B q := by
  unfold gd2
  dsimp only
  refine ⟨if_pos ⟨rfl, rfl, hq⟩, ?_⟩
  rw [if_neg (fun z => hf z.1.symm), if_pos ⟨rfl, rfl, hq⟩]
