/-! PURE: reads behind writes; what the helpers answer -/
theorem gsu_f {σ : gT} {f i j : Nat} {x : Int32} {a b c : Nat} (h : a ≠ f) : (gsu σ f i j x).1 a b c = σ.1 a b c := if_neg (fun z => h z.1)
theorem gsu_s {σ : gT} {f i j : Nat} {x : Int32} {a b c : Nat} (h : c ≠ j) : (gsu σ f i j x).1 a b c = σ.1 a b c := if_neg (fun z => h z.2.2)
theorem gsu_i {σ : gT} {f i j : Nat} {x : Int32} {a b c : Nat} (h : b ≠ i) : (gsu σ f i j x).1 a b c = σ.1 a b c := if_neg (fun z => h z.2.1)
theorem gsu_e {σ : gT} {f i j : Nat} {x : Int32} : (gsu σ f i j x).1 f i j = x := if_pos ⟨rfl, rfl, rfl⟩
theorem gsu_g {σ : gT} {f i j : Nat} {x : Int32} {a b c : Nat} : (gsu σ f i j x).2 a b c = σ.2 a b c := rfl
theorem gsl_f {σ : gT} {f i j : Nat} {x : Int64} {a b c : Nat} : (gsl σ f i j x).1 a b c = σ.1 a b c := rfl
theorem gsl_g {σ : gT} {f i j : Nat} {x : Int64} {a b c : Nat} (h : a ≠ f) : (gsl σ f i j x).2 a b c = σ.2 a b c := if_neg (fun z => h z.1)
theorem gsl_s {σ : gT} {f i j : Nat} {x : Int64} {a b c : Nat} (h : c ≠ j) : (gsl σ f i j x).2 a b c = σ.2 a b c := if_neg (fun z => h z.2.2)
theorem gsl_e {σ : gT} {f i j : Nat} {x : Int64} : (gsl σ f i j x).2 f i j = x := if_pos ⟨rfl, rfl, rfl⟩
theorem u_miss_y {i : Nat} {σ : gT} {k : Int32 → gT → Prop} (h : σ.1 6 i 1 = -1) : wX6_isMissing i σ k ↔ k 1 σ := by
  unfold wX6_isMissing
  exact ⟨fun z => (z.2 h).2, fun z => ⟨fun y => absurd h y, fun _ => ⟨Or.inr rfl, z⟩⟩⟩
theorem u_miss_n {i : Nat} {σ : gT} {k : Int32 → gT → Prop} (h : ¬ σ.1 6 i 1 = -1) : wX6_isMissing i σ k ↔ k 0 σ := by
  unfold wX6_isMissing
  exact ⟨fun z => (z.1 h).2, fun z => ⟨fun _ => ⟨Or.inl rfl, z⟩, fun y => absurd y h⟩⟩
theorem u_pmiss_y {i : Nat} {σ : gT} {k : Int32 → gT → Prop} (h : σ.1 3 i 2 = 0) : wX3_isMissing i σ k ↔ k 1 σ := by
  unfold wX3_isMissing
  exact ⟨fun z => (z.2 h).2, fun z => ⟨fun y => absurd h y, fun _ => ⟨Or.inr rfl, z⟩⟩⟩
theorem u_pmiss_n {i : Nat} {σ : gT} {k : Int32 → gT → Prop} (h : ¬ σ.1 3 i 2 = 0) : wX3_isMissing i σ k ↔ k 0 σ := by
  unfold wX3_isMissing
  exact ⟨fun z => (z.1 h).2, fun z => ⟨fun _ => ⟨Or.inl rfl, z⟩, fun y => absurd y h⟩⟩
/-- reaches: whether places from x on, m of them, lie within n -/
theorem u_reach_y {i n : Nat} {x m : Int32} {σ : gT} {k : Int32 → gT → Prop} (hn : n ≤ 64) (hs : σ.1 6 i 2 = nI n) (h : 0 ≤ x.toInt ∧ 0 ≤ m.toInt ∧ x.toInt + m.toInt ≤ n) : wX6_reaches i x m σ k ↔ k 1 σ := by
  obtain ⟨a, ha, rfl⟩ := nI_of (x := x) (by rw [fa_lt]; show ¬ x.toInt < 0; omega)
  obtain ⟨b, hb, rfl⟩ := nI_of (x := m) (by rw [fa_lt]; show ¬ m.toInt < 0; omega)
  rw [nI_toInt ha, nI_toInt hb] at h
  unfold wX6_reaches
  rw [hs]
  have c1 : ¬ nI a < 0 := nI_pos ha
  have c2 : ¬ nI b < 0 := nI_pos hb
  have c3 : ¬ nI n < nI a := nI_nlt (by omega) (by omega)
  have c4 : ¬ nI n - nI a < nI b := by rw [pk_sub (by omega)]; exact nI_nlt (by omega) (by omega)
  exact ⟨fun z => ((((z.2 c1).2 c2).2 c3).2 c4).2, fun z => ⟨fun y => absurd y c1, fun _ => ⟨fun y => absurd y c2, fun _ => ⟨fun y => absurd y c3, fun _ => ⟨fun y => absurd y c4, fun _ => ⟨Or.inr rfl, z⟩⟩⟩⟩⟩⟩
set_option maxHeartbeats 1000000 in
theorem u_reach_n {i n : Nat} {x m : Int32} {σ : gT} {k : Int32 → gT → Prop} (hn : n ≤ 64) (hs : σ.1 6 i 2 = nI n) (h : ¬ (0 ≤ x.toInt ∧ 0 ≤ m.toInt ∧ x.toInt + m.toInt ≤ n)) : wX6_reaches i x m σ k ↔ k 0 σ := by
  unfold wX6_reaches wX6_reaches_30
  rw [hs]
  by_cases c1 : x < 0
  · exact ⟨fun z => (z.1 c1).2, fun z => ⟨fun _ => ⟨Or.inl rfl, z⟩, fun y => absurd c1 y⟩⟩
  by_cases c2 : m < 0
  · exact ⟨fun z => ((z.2 c1).1 c2).2, fun z => ⟨fun y => absurd y c1, fun _ => ⟨fun _ => ⟨Or.inl rfl, z⟩, fun y => absurd c2 y⟩⟩⟩
  by_cases c3 : nI n < x
  · exact ⟨fun z => (((z.2 c1).2 c2).1 c3).2, fun z => ⟨fun y => absurd y c1, fun _ => ⟨fun y => absurd y c2, fun _ => ⟨fun _ => ⟨Or.inl rfl, z⟩, fun y => absurd c3 y⟩⟩⟩⟩
  have c4 : nI n - x < m := by
    obtain ⟨a, ha, rfl⟩ := nI_of c1
    obtain ⟨b, hb, rfl⟩ := nI_of c2
    rw [nI_ltI (by omega) ha] at c3
    rw [nI_toInt ha, nI_toInt hb] at h
    rw [pk_sub (by omega), nI_ltI (by omega) hb]
    omega
  exact ⟨fun z => ((((z.2 c1).2 c2).2 c3).1 c4).2, fun z => ⟨fun y => absurd y c1, fun _ => ⟨fun y => absurd y c2, fun _ => ⟨fun y => absurd y c3, fun _ => ⟨fun _ => ⟨Or.inl rfl, z⟩, fun y => absurd c4 y⟩⟩⟩⟩⟩
theorem pred_toInt {n : Nat} (hn : n ≤ 1000000) : (nI n - 1).toInt = (n : Int) - 1 := by
  cases n with
  | zero => decide
  | succ n => rw [nI_pred, nI_toInt (by omega)]; omega
theorem v_insz_y {n : Nat} {x : Int32} {σ : gT} {k : Int32 → gT → Prop} (hn : n ≤ 1000000) (h : 0 ≤ x.toInt ∧ x.toInt < n) : wX10_in x.toInt64 (0 : Int64) (nI n - 1).toInt64 σ k ↔ k 1 σ := by
  refine v_in_in ?_ ?_
  · rw [show (0 : Int64) = (0 : Int32).toInt64 from rfl, fa_wide_le, fa_le]; exact h.1
  · rw [fa_wide_le, fa_le, pred_toInt hn]; omega
theorem v_insz_n {n : Nat} {x : Int32} {σ : gT} {k : Int32 → gT → Prop} (hn : n ≤ 1000000) (h : ¬ (0 ≤ x.toInt ∧ x.toInt < n)) : wX10_in x.toInt64 (0 : Int64) (nI n - 1).toInt64 σ k ↔ k 0 σ := by
  refine v_in_out ?_
  rw [show (0 : Int64) = (0 : Int32).toInt64 from rfl, fa_wide_lt, fa_wide_lt, fa_lt, fa_lt, pred_toInt hn]
  show x.toInt < 0 ∨ _
  omega
theorem v_look_n {p : Nat} {σ : gT} {k : Int32 → gT → Prop} (hp : p < 6) (h : ¬ σ.1 36 0 p = 0) : wX10_lookAt (nI p) σ k ↔ k 0 (gsu σ 10 0 1 0) := by
  unfold wX10_lookAt
  rw [nI_clamp (by omega)]
  exact ⟨fun z => z.2.1 h, fun z => ⟨vp_in_nI hp (by decide), fun _ => z, fun y => absurd y h⟩⟩
theorem v_look_y {p : Nat} {σ : gT} {k : Int32 → gT → Prop} (hp : p < 6) (h : σ.1 36 0 p = 0) : wX10_lookAt (nI p) σ k ↔ k (-1000011) (gsu σ 10 0 1 1) := by
  unfold wX10_lookAt wX10_finding
  rw [nI_clamp (by omega)]
  exact ⟨fun z => z.2.2 h, fun z => ⟨vp_in_nI hp (by decide), fun y => absurd h y, fun _ => z⟩⟩
theorem v_told {x : Int32} {σ : gT} {k : Int32 → gT → Prop} : wX10_told x σ k ↔ k (if x = -1 then -1000000 else x) σ := by
  unfold wX10_told
  by_cases c : x = -1
  · rw [if_pos c]; exact ⟨fun z => z.2 c, fun z => ⟨fun y => absurd c y, fun _ => z⟩⟩
  · rw [if_neg c]; exact ⟨fun z => z.1 c, fun z => ⟨fun _ => z, fun y => absurd y c⟩⟩
