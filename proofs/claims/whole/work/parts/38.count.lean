/-! PURE: count -/
def glit (re im : Nat → Int32) : Bool := decide (0 < gct (fun q => decide (¬ re q = 0 ∨ ¬ im q = 0)) 16)
theorem glit_cong {re im re' im' : Nat → Int32} (h : ∀ q, q < 16 → re q = re' q ∧ im q = im' q) : glit re im = glit re' im' := by
  unfold glit
  rw [gct_cong (fun j hj => by rw [(h j hj).1, (h j hj).2] : ∀ j, j < 16 → decide (¬ re j = 0 ∨ ¬ im j = 0) = decide (¬ re' j = 0 ∨ ¬ im' j = 0))]
theorem gct_mono {p : Nat → Bool} {n : Nat} (h : 0 < gct p n) : ∀ m, 0 < gct p (n + m)
  | 0 => h
  | m + 1 => by
    have := gct_mono h m
    rw [← Nat.add_assoc, gct_s]
    omega
set_option maxHeartbeats 1000000 in
theorem u_isLit {w : Nat} {σ : gT} {k : Int32 → gT → Prop} (h : k (if glit (σ.1 23 w) (σ.1 24 w) = true then 1 else 0) σ) : wX8_isLit w σ k := by
  unfold wX8_isLit
  have key := gloop (N := 16) (fun m j => gct (fun q => decide (¬ σ.1 23 w q = 0 ∨ ¬ σ.1 24 w q = 0)) j = 0 → wX8_isLit_2 k m w (nI j) σ) (by
    intro hz
    unfold wX8_isLit_2
    refine ⟨fun _ => ⟨Or.inl rfl, ?_⟩, fun z => absurd (by decide) z⟩
    unfold glit at h
    rw [if_neg (by rw [decide_eq_true_iff]; omega)] at h
    exact h) (by
    intro n j hj ih hz
    have v : vp_in (nI j) 16 := vp_in_nI hj (by decide)
    have lit : (¬ σ.1 23 w j = 0 ∨ ¬ σ.1 24 w j = 0) → k 1 σ := fun c => by
      unfold glit at h
      rw [if_pos] at h
      · exact h
      · rw [decide_eq_true_iff]
        have h1 : 0 < gct (fun q => decide (¬ σ.1 23 w q = 0 ∨ ¬ σ.1 24 w q = 0)) (j + 1) := by
          rw [gct_s, if_pos (by rw [decide_eq_true_iff]; exact c)]
          omega
        have h2 := gct_mono h1 (15 - j)
        rw [show j + 1 + (15 - j) = 16 by omega] at h2
        exact h2
    unfold wX8_isLit_2
    rw [nI_1, nI_clamp (show j < 2 ^ 31 by omega)]
    refine ⟨fun z => absurd z (nI_ge (b := 16) hj (by decide)), fun _ => ⟨v, fun c => ⟨Or.inr rfl, lit (Or.inl c)⟩, fun c => ⟨v, fun c2 => ih ?_, fun c2 => ⟨Or.inr rfl, lit (Or.inr c2)⟩⟩⟩⟩
    rw [gct_s, if_neg (by rw [decide_eq_true_iff]; exact fun z => z.elim (fun y => y c) (fun y => y c2)), hz])
  obtain ⟨n, key⟩ := key
  exact ⟨n, key rfl⟩
set_option maxHeartbeats 1000000 in
theorem gbr_pos {a b : Int32} (ha : -1000000 ≤ a.toInt ∧ a.toInt ≤ 1000000) (hb : -1000000 ≤ b.toInt ∧ b.toInt ≤ 1000000) : (gbr a b ≤ 0) ↔ ¬ (¬ a = 0 ∨ ¬ b = 0) := by
  obtain ⟨x1, x2⟩ := mul64 (i32_bd (M := 1000000) ha) (i32_bd (M := 1000000) ha) (by decide)
  obtain ⟨y1, y2⟩ := mul64 (i32_bd (M := 1000000) hb) (i32_bd (M := 1000000) hb) (by decide)
  have nx := sq_nn a.toInt64.toInt
  have ny := sq_nn b.toInt64.toInt
  have e : (gbr a b).toInt = a.toInt * a.toInt + b.toInt * b.toInt := by
    unfold gbr
    rw [Int64.toInt_add, Int.bmod_def]
    rw [x1, y1] at *
    rw [Int32.toInt_toInt64, Int32.toInt_toInt64] at *
    omega
  rw [fa_le64, e]
  rw [Int32.toInt_toInt64] at nx ny
  have za : a.toInt * a.toInt = 0 ↔ a = 0 := by
    rw [fa_eq]
    show _ ↔ a.toInt = 0
    constructor
    · intro z
      rcases Int.mul_eq_zero.mp z with y | y <;> exact y
    · intro z
      rw [z]
      rfl
  have zb : b.toInt * b.toInt = 0 ↔ b = 0 := by
    rw [fa_eq]
    show _ ↔ b.toInt = 0
    constructor
    · intro z
      rcases Int.mul_eq_zero.mp z with y | y <;> exact y
    · intro z
      rw [z]
      rfl
  have e0 : (0 : Int64).toInt = 0 := by decide
  rw [e0]
  constructor
  · intro z
    rintro (y | y)
    · exact y (za.mp (by omega))
    · exact y (zb.mp (by omega))
  · intro z
    have a0 : a = 0 := Classical.not_not.mp (fun y => z (Or.inl y))
    have b0 : b = 0 := Classical.not_not.mp (fun y => z (Or.inr y))
    have := za.mpr a0
    have := zb.mpr b0
    omega
theorem nI_0r (a : Nat) : nI a + 0 = nI a := by rw [show (0 : Int32) = nI 0 from rfl, nI_add]; rfl
set_option maxHeartbeats 1000000 in
theorem u_there {σ : gT} {k : Int32 → gT → Prop} (h : k (nI (gct (fun s => decide (¬ σ.1 6 s 1 = -1)) 8)) σ) : wX9_sheetsThere σ k := by
  unfold wX9_sheetsThere
  refine gloop (N := 8) (fun m j => wX9_sheetsThere_4 k m (nI (gct (fun s => decide (¬ σ.1 6 s 1 = -1)) j)) (nI j) σ) ?_ ?_
  · unfold wX9_sheetsThere_4
    exact ⟨fun _ => h, fun z => absurd (by decide) z⟩
  · intro n j hj hn
    rw [gct_s] at hn
    unfold wX9_sheetsThere_4 wX9_sheetsThere_25
    rw [nI_1, nI_1, nI_clamp (show j < 2 ^ 31 by omega)]
    refine ⟨fun z => absurd z (nI_ge (b := 8) hj (by decide)), fun _ => ⟨vp_in_nI hj (by decide), ?_⟩⟩
    by_cases c : σ.1 6 j 1 = -1
    · rw [if_neg (by simpa using c)] at hn
      rw [u_miss_y c]
      exact ⟨fun _ => hn, fun z => absurd z (by decide)⟩
    · rw [if_pos (by simpa using c)] at hn
      rw [u_miss_n c]
      exact ⟨fun z => absurd rfl z, fun _ => hn⟩
set_option maxHeartbeats 1000000 in
theorem u_lit {σ : gT} {k : Int32 → gT → Prop} (h : k (nI (gct (fun w => glit (σ.1 23 w) (σ.1 24 w)) 8)) σ) : wX9_wavesLit σ k := by
  unfold wX9_wavesLit
  refine gloop (N := 8) (fun m j => wX9_wavesLit_4 k m (nI (gct (fun w => glit (σ.1 23 w) (σ.1 24 w)) j)) (nI j) σ) ?_ ?_
  · unfold wX9_wavesLit_4
    exact ⟨fun _ => h, fun z => absurd (by decide) z⟩
  · intro n j hj hn
    rw [gct_s] at hn
    unfold wX9_wavesLit_4 wX9_wavesLit_25
    rw [nI_1, nI_1, nI_clamp (show j < 2 ^ 31 by omega)]
    refine ⟨fun z => absurd z (nI_ge (b := 8) hj (by decide)), fun _ => ⟨vp_in_nI hj (by decide), u_isLit ?_⟩⟩
    by_cases c : glit (σ.1 23 j) (σ.1 24 j) = true
    · rw [if_pos c] at hn ⊢
      exact ⟨fun z => absurd z (by decide), fun _ => hn⟩
    · rw [if_neg c] at hn ⊢
      exact ⟨fun _ => hn, fun z => absurd rfl z⟩
set_option maxHeartbeats 1000000 in
theorem u_of {kd : Int32} {σ : gT} {k : Int32 → gT → Prop} (hL : ∀ p, p < 6 → gLs σ p) (h : k (nI (gct (fun p => decide (¬ σ.1 3 p 2 = 0 ∧ ¬ gof (gkd (gpg σ p)) kd = 0)) 6)) σ) : wX9_platesOf kd σ k := by
  unfold wX9_platesOf
  refine gloop (N := 6) (fun m j => wX9_platesOf_4 k m kd (nI (gct (fun p => decide (¬ σ.1 3 p 2 = 0 ∧ ¬ gof (gkd (gpg σ p)) kd = 0)) j)) (nI j) σ) ?_ ?_
  · unfold wX9_platesOf_4
    exact ⟨fun _ => h, fun z => absurd (by decide) z⟩
  · intro n j hj hn
    rw [gct_s] at hn
    have v : vp_in (nI j) 6 := vp_in_nI hj (by decide)
    unfold wX9_platesOf_4 wX9_platesOf_38
    rw [nI_1, nI_1, nI_clamp (show j < 2 ^ 31 by omega)]
    refine ⟨fun z => absurd z (nI_ge (b := 6) hj (by decide)), fun _ => ⟨v, ?_⟩⟩
    by_cases c : σ.1 3 j 2 = 0
    · rw [if_neg (by rw [decide_eq_true_iff]; exact fun z => z.1 c)] at hn
      rw [u_pmiss_y c]
      exact ⟨fun _ => hn, fun z => absurd z (by decide)⟩
    · rw [u_pmiss_n c]
      refine ⟨fun z => absurd rfl z, fun _ => ⟨v, u_isOf (hL j hj) ⟨fun c2 => ?_, fun c2 => ?_⟩⟩⟩
      · rw [if_neg (by rw [decide_eq_true_iff]; exact fun z => z.2 c2)] at hn
        exact hn
      · rw [if_pos (by rw [decide_eq_true_iff]; exact ⟨c, c2⟩)] at hn
        exact hn
theorem v_143_low {t : Nat} {x : Int32} {σ : gT} {k : Int32 → gT → Prop} (ht : t ≤ 1) (h : k x σ) : wX10_count_143 k (nI t) x σ := by
  unfold wX10_count_143
  refine ⟨1, ?_⟩
  unfold wX10_count_145
  exact ⟨fun z => absurd z (by decide), fun _ => ⟨fun _ => h, fun z => absurd (nI_le (b := 1) ht (by decide)) z⟩⟩
theorem v_68_no {t : Nat} {x : Int32} {σ : gT} {k : Int32 → gT → Prop} (ht : ¬ nI t = 1) (h : wX10_count_143 k (nI t) x σ) : wX10_count_68 k (nI t) x σ := by
  unfold wX10_count_68
  refine ⟨1, ?_⟩
  unfold wX10_count_70
  exact ⟨fun z => absurd z (by decide), fun _ => ⟨fun _ => h, fun z => absurd z ht⟩⟩
theorem v_35_no {t : Nat} {x : Int32} {σ : gT} {k : Int32 → gT → Prop} (ht : ¬ nI t = 0) (h : wX10_count_68 k (nI t) x σ) : ∃ n, wX10_count_35 k n (nI t) x 0 σ := by
  refine ⟨1, ?_⟩
  unfold wX10_count_35
  exact ⟨fun z => absurd z (by decide), fun _ => ⟨fun _ => h, fun z => absurd z ht⟩⟩
set_option maxHeartbeats 1000000 in
theorem v_cnt0 {P : Nat → Bool} {σ : gT} {k : Int32 → gT → Prop} (hP : ∀ s, s < 8 → (σ.1 28 0 s < 0 ↔ P s = false)) (h : k (nI (gct P 8)) σ) : ∃ n, wX10_count_35 k n (nI 0) 0 0 σ := by
  refine gloop (N := 8) (fun m j => wX10_count_35 k m (nI 0) (nI (gct P j)) (nI j) σ) ?_ ?_
  · unfold wX10_count_35
    exact ⟨fun _ => v_68_no (by decide) (v_143_low (by decide) h), fun z => absurd (by decide) z⟩
  · intro n j hj hn
    rw [gct_s] at hn
    unfold wX10_count_35 wX10_count_60
    rw [nI_1, nI_1, nI_0r, nI_clamp (show j < 2 ^ 31 by omega), hP j hj]
    refine ⟨fun z => absurd z (nI_ge (b := 8) hj (by decide)), fun _ => ⟨fun z => absurd rfl z, fun _ => ⟨vp_in_nI hj (by decide), fun c => ?_, fun c => ?_⟩⟩⟩
    · rw [if_neg (by rw [c]; decide)] at hn
      exact hn
    · rw [if_pos (by cases hh : P j with | true => rfl | false => exact absurd hh c)] at hn
      exact hn
set_option maxHeartbeats 1000000 in
theorem v_cnt1 {re im : Nat → Nat → Int32} {σ : gT} {k : Int32 → gT → Prop} (hr : ∀ w q, w < 8 → q < 16 → σ.1 31 0 (16 * w + q) = re w q ∧ σ.1 32 0 (16 * w + q) = im w q) (hb : ∀ w q, w < 8 → q < 16 → (-1000000 ≤ (re w q).toInt ∧ (re w q).toInt ≤ 1000000) ∧ (-1000000 ≤ (im w q).toInt ∧ (im w q).toInt ≤ 1000000)) (h : k (nI (gct (fun w => glit (re w) (im w)) 8)) σ) : wX10_count_68 k (nI 1) 0 σ := by
  unfold wX10_count_68
  refine gloop (N := 8) (fun m j => wX10_count_70 k m (nI 1) (nI (gct (fun w => glit (re w) (im w)) j)) (nI j) σ) ?_ ?_
  · unfold wX10_count_70
    exact ⟨fun _ => v_143_low (by decide) h, fun z => absurd (by decide) z⟩
  · intro n w hw hn
    rw [gct_s] at hn
    unfold wX10_count_70
    refine ⟨fun z => absurd z (nI_ge (b := 8) hw (by decide)), fun _ => ⟨fun z => absurd rfl z, fun _ => ?_⟩⟩
    have inner := gloop (N := 16) (fun m j => wX10_count_87 (wX10_count_70 k n) k m (nI 1) (nI (gct (fun w => glit (re w) (im w)) w)) (nI w) (if 0 < gct (fun q => decide (¬ re w q = 0 ∨ ¬ im w q = 0)) j then 1 else 0) (nI j) σ) (by
      unfold wX10_count_87 wX10_count_135
      rw [nI_1, nI_1, nI_0r]
      refine ⟨fun _ => ⟨fun c => ?_, fun c => ?_⟩, fun z => absurd (by decide) z⟩
      · by_cases c2 : 0 < gct (fun q => decide (¬ re w q = 0 ∨ ¬ im w q = 0)) 16
        · rw [if_pos c2] at c; exact absurd c (by decide)
        · rw [if_neg (by unfold glit; rw [decide_eq_true_iff]; exact c2)] at hn
          exact hn
      · by_cases c2 : 0 < gct (fun q => decide (¬ re w q = 0 ∨ ¬ im w q = 0)) 16
        · rw [if_pos (by unfold glit; rw [decide_eq_true_iff]; exact c2)] at hn
          exact hn
        · rw [if_neg c2] at c; exact absurd rfl c) (by
      intro m j hj hm
      rw [gct_s] at hm
      unfold wX10_count_87 wX10_count_116 wX10_count_111 wX10_count_116
      rw [nI_1 j]
      refine ⟨fun z => absurd z (nI_ge (b := 16) hj (by decide)), fun _ => ⟨fun c => ?_, fun c => (v_brightOf hw hj (hr w j hw hj).1 (hr w j hw hj).2).mpr ?_⟩⟩
      · by_cases c2 : 0 < gct (fun q => decide (¬ re w q = 0 ∨ ¬ im w q = 0)) j
        · rw [if_pos (by omega)] at hm
          exact hm
        · rw [if_neg c2] at c; exact absurd rfl c
      · by_cases c2 : 0 < gct (fun q => decide (¬ re w q = 0 ∨ ¬ im w q = 0)) j
        · rw [if_pos c2] at c; exact absurd c (by decide)
        · rw [cmp_le0, gbr_pos (hb w j hw hj).1 (hb w j hw hj).2]
          refine ⟨fun c3 => ?_, fun c3 => ?_⟩
          · rw [if_neg (by rw [if_neg (by rw [decide_eq_true_iff]; exact c3)]; omega)] at hm
            exact hm
          · rw [if_pos (by rw [if_pos (by rw [decide_eq_true_iff]; exact Classical.not_not.mp c3)]; omega)] at hm
            exact hm)
    exact inner
set_option maxHeartbeats 1000000 in
theorem v_cnt2 {t : Nat} {st : Nat → Int32} {g : Nat → Nat → Int32} {σ : gT} {k : Int32 → gT → Prop} (ht : 2 ≤ t) (ht2 : t < 7) (hs : ∀ p, p < 6 → σ.1 36 0 p = st p) (hg : ∀ p q, p < 6 → q < 16 → σ.1 37 0 (16 * p + q) = g p q) (hr : ∀ p q, p < 6 → q < 16 → g p q = -1 ∨ ∃ n, n ≤ 255 ∧ g p q = nI n) (h : k (nI (gct (fun p => decide (¬ st p = 0 ∧ ¬ gof (gkd (g p)) (nI (t - 2)) = 0)) 6)) σ) : wX10_count_143 k (nI t) 0 σ := by
  unfold wX10_count_143
  refine gloop (N := 6) (fun m j => wX10_count_145 k m (nI t) (nI (gct (fun p => decide (¬ st p = 0 ∧ ¬ gof (gkd (g p)) (nI (t - 2)) = 0)) j)) (nI j) σ) ?_ ?_
  · unfold wX10_count_145
    exact ⟨fun _ => h, fun z => absurd (by decide) z⟩
  · intro n j hj hn
    rw [gct_s] at hn
    unfold wX10_count_145 wX10_count_198
    have e2 : nI t - 2 = nI (t - 2) := by rw [show (2 : Int32) = nI 2 from rfl, pk_sub ht]
    rw [nI_1, nI_1, nI_0r, e2, nI_clamp (show j < 2 ^ 31 by omega), hs j hj]
    refine ⟨fun z => absurd z (nI_ge (b := 6) hj (by decide)), fun _ => ⟨fun z => absurd z (nI_ge (b := t) (a := 1) (by omega) (by omega)), fun _ => ⟨vp_in_nI hj (by decide), fun c => ⟨fun c2 => v_kindOf (g := g j) hj (fun q hq => hg j q hj hq) (fun q hq => hr j q hj hq) (v_isOf ⟨fun c3 => ?_, fun c3 => ?_⟩), fun c2 => ?_⟩, fun c => ?_⟩⟩⟩
    · rw [if_neg (by rw [decide_eq_true_iff]; exact fun z => z.2 c3)] at hn
      exact hn
    · rw [if_pos (by rw [decide_eq_true_iff]; exact ⟨c, c3⟩)] at hn
      exact hn
    · have t2 : t = 2 := by
        rw [show (2 : Int32) = nI 2 from rfl, nI_eq (by omega) (by decide)] at c2
        exact c2
      subst t2
      rw [if_pos (by rw [decide_eq_true_iff]; exact ⟨c, by unfold gof; rw [if_pos (Or.inl (show nI (2 - 2) = 0 from rfl))]; decide⟩)] at hn
      exact hn
    · rw [if_neg (by rw [decide_eq_true_iff]; exact fun z => z.1 c)] at hn
      exact hn
set_option maxHeartbeats 1000000 in
theorem J_count (x1 : Int32) {σ : gT} (h : gR σ) : wX9_count x1 σ (fun r s1 => wX10_count x1 s1 (fun r2 s2 => r = r2 ∧ gR s2)) := by
  unfold wX9_count wX10_count
  have kb : gR (gsu σ 10 0 0 0) := gR_thrown h
  rcases ixc 8 (by decide) (x := x1) with c | ⟨t, ht, rfl⟩
  · have h2 : ∀ (σ : gT) (k : Int32 → gT → Prop), wX10_in x1.toInt64 (0 : Int64) (7 : Int64) σ k ↔ k 0 σ := fun σ k => v_outN (N := 8) (by decide) (by decide) rfl c
    simp only [h2, if0, if0n, if1, if1n, true_implies, not_true_eq_false, not_false_eq_true, false_implies, and_true, true_and, implies_true]
    have c2 : x1.toInt < 0 ∨ 7 < x1.toInt := by
      rcases c with c | c
      · rw [fa_lt] at c; exact Or.inl c
      · rw [fa_le, nI_toInt (by decide)] at c; exact Or.inr (by omega)
    refine ⟨fun _ => kb, fun z => ?_, fun z => ?_, fun z => ?_, fun z => ?_, fun z => ?_, fun z => ?_, fun z => ?_, fun z => ?_⟩ <;> omega
  have h2 : ∀ (σ : gT) (k : Int32 → gT → Prop), wX10_in (nI t).toInt64 (0 : Int64) (7 : Int64) σ k ↔ k 1 σ := fun σ k => v_inN (N := 8) ht (by decide) rfl
  have n7 : ∀ u, u < 7 → ¬ nI u = 7 := fun u hu z => by
    rw [show (7 : Int32) = nI 7 from rfl, nI_eq (by omega) (by decide)] at z
    omega
  have n1 : ∀ u, 2 ≤ u → u < 7 → ¬ nI u = 1 := fun u hu hu2 z => by
    rw [show (1 : Int32) = nI 1 from rfl, nI_eq (by omega) (by decide)] at z
    omega
  have n0 : ∀ u, 1 ≤ u → u < 7 → ¬ nI u = 0 := fun u hu hu2 => nI_ne0 hu (by omega)
  simp only [h2, if0, if0n, if1, if1n, true_implies, not_true_eq_false, not_false_eq_true, false_implies, and_true, true_and, implies_true]
  rw [nI_toInt (by omega)]
  have pl : ∀ u, 2 ≤ u → u < 7 → wX9_platesOf (nI (u - 2)) σ (fun r9 s8 => (¬ nI u = 7 → ∃ n30 : Nat, wX10_count_35 (fun r2 s2 => r9 = r2 ∧ gR s2) n30 (nI u) 0 0 (gsu s8 10 0 0 0)) ∧ (nI u = 7 → r9 = (gsu s8 10 0 0 0).1 10 0 10 ∧ gR (gsu s8 10 0 0 0))) := by
    intro u hu hu2
    refine u_of (fun p hp => (h.2.2.1 p hp).2.2.2) ⟨fun _ => v_35_no (n0 u (by omega) hu2) (v_68_no (n1 u hu hu2) (v_cnt2 (st := fun p => σ.1 3 p 2) (g := fun p q => gpg σ p q) hu hu2 (fun p hp => ?_) (fun p q hp hq => ?_) (fun p q hp hq => ((h.2.2.1 p hp).2.2.1 q hq).2) ⟨rfl, kb⟩)), fun z => absurd z (n7 u hu2)⟩
    · simp (disch := decide) only [gsu_f, gsu_s, gsu_e, gsl_f, gsl_g, gsl_s, gsl_e, gsu_g]
      exact (h.2.2.1 p hp).1
    · simp (disch := decide) only [gsu_f, gsu_s, gsu_e, gsl_f, gsl_g, gsl_s, gsl_e, gsu_g]
      exact ((h.2.2.1 p hp).2.2.1 q hq).1
  refine ⟨fun z => ?_, fun z => ?_, fun z => ?_, fun z => ?_, fun z => ?_, fun z => ?_, fun z => ?_, fun z => ?_, fun z => ?_⟩
  · omega
  · have : t = 0 := by omega
    subst this
    refine u_there ⟨fun _ => v_cnt0 (P := fun s => decide (¬ σ.1 6 s 1 = -1)) (fun s hs => ?_) ⟨rfl, kb⟩, fun z => absurd z (by decide)⟩
    simp (disch := decide) only [gsu_f, gsu_s, gsu_e, gsl_f, gsl_g, gsl_s, gsl_e, gsu_g]
    obtain ⟨r1, r2⟩ := gRs_at h.1 hs
    rw [r1, decide_eq_false_iff_not, Classical.not_not]
    rcases r2 with m | ⟨m, m2⟩
    · rw [m]; decide
    · exact ⟨fun y => absurd m2 (nle_lt.mpr y), fun y => absurd y m⟩
  · have : t = 1 := by omega
    subst this
    refine u_lit ⟨fun _ => v_35_no (by decide) (v_cnt1 (re := fun w q => σ.1 23 w q) (im := fun w q => σ.1 24 w q) (fun w q hw hq => ?_) (fun w q hw hq => ?_) ⟨rfl, kb⟩), fun z => absurd z (by decide)⟩
    · simp (disch := decide) only [gsu_f, gsu_s, gsu_e, gsl_f, gsl_g, gsl_s, gsl_e, gsu_g]
      exact ⟨(h.2.1 w hw q hq).1, (h.2.1 w hw q hq).2.1⟩
    · exact (h.2.1 w hw q hq).2.2
  · have : t = 2 := by omega
    subst this
    exact pl 2 (by decide) (by decide)
  · have : t = 3 := by omega
    subst this
    exact pl 3 (by decide) (by decide)
  · have : t = 4 := by omega
    subst this
    exact pl 4 (by decide) (by decide)
  · have : t = 5 := by omega
    subst this
    exact pl 5 (by decide) (by decide)
  · have : t = 6 := by omega
    subst this
    exact pl 6 (by decide) (by decide)
  · have : t = 7 := by omega
    subst this
    refine ⟨fun z => absurd rfl z, fun _ => ⟨?_, kb⟩⟩
    obtain ⟨n, hn, a1, a2, a3⟩ := h.2.2.2.1
    simp (disch := decide) only [gsu_f, gsu_s, gsu_e, gsl_f, gsl_g, gsl_s, gsl_e, gsu_g]
    rw [a1, a2]
