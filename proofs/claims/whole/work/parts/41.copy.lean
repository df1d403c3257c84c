/-! PURE: copy -/
/-- places lo to hi of a row, written -/
def gpl (σ : gT) (f i lo hi : Nat) (F : Nat → Int32) : gT := (fun a b c => if a = f ∧ b = i ∧ lo ≤ c ∧ c < hi then F c else σ.1 a b c, σ.2)
theorem gpl_e {σ : gT} {f i lo : Nat} {F : Nat → Int32} : gpl σ f i lo lo F = σ := by
  refine Prod.ext ?_ rfl
  funext a b c
  exact if_neg (by omega)
set_option maxHeartbeats 1000000 in
theorem gpl_up {σ : gT} {f i lo hi : Nat} {F : Nat → Int32} (h : lo ≤ hi) : gsu (gpl σ f i lo hi F) f i hi (F hi) = gpl σ f i lo (hi + 1) F := by
  refine Prod.ext ?_ rfl
  funext a b c
  rw [gsu_1]
  unfold gpl
  dsimp only
  by_cases h1 : a = f ∧ b = i ∧ c = hi
  · rw [if_pos h1, if_pos ⟨h1.1, h1.2.1, by omega, by omega⟩, h1.2.2]
  · rw [if_neg h1]
    by_cases h2 : a = f ∧ b = i ∧ lo ≤ c ∧ c < hi
    · rw [if_pos h2, if_pos ⟨h2.1, h2.2.1, by omega, by omega⟩]
    · rw [if_neg h2, if_neg]
      rintro ⟨z1, z2, z3, z4⟩
      by_cases z5 : c = hi
      · exact h1 ⟨z1, z2, z5⟩
      · exact h2 ⟨z1, z2, z3, by omega⟩
set_option maxHeartbeats 1000000 in
theorem gpl_dn {σ : gT} {f i lo hi : Nat} {F : Nat → Int32} (h : lo < hi) : gsu (gpl σ f i (lo + 1) hi F) f i lo (F lo) = gpl σ f i lo hi F := by
  refine Prod.ext ?_ rfl
  funext a b c
  rw [gsu_1]
  unfold gpl
  dsimp only
  by_cases h1 : a = f ∧ b = i ∧ c = lo
  · rw [if_pos h1, if_pos ⟨h1.1, h1.2.1, by omega, by omega⟩, h1.2.2]
  · rw [if_neg h1]
    by_cases h2 : a = f ∧ b = i ∧ lo + 1 ≤ c ∧ c < hi
    · rw [if_pos h2, if_pos ⟨h2.1, h2.2.1, by omega, by omega⟩]
    · rw [if_neg h2, if_neg]
      rintro ⟨z1, z2, z3, z4⟩
      by_cases z5 : c = lo
      · exact h1 ⟨z1, z2, z5⟩
      · exact h2 ⟨z1, z2, by omega, by omega⟩
theorem gpl_n {σ : gT} {f i lo hi a b c : Nat} {F : Nat → Int32} (h : ¬ (lo ≤ c ∧ c < hi)) : (gpl σ f i lo hi F).1 a b c = σ.1 a b c := if_neg (fun z => h z.2.2)
theorem gpl_y {σ : gT} {f i lo hi c : Nat} {F : Nat → Int32} (h : lo ≤ c ∧ c < hi) : (gpl σ f i lo hi F).1 f i c = F c := if_pos ⟨rfl, rfl, h⟩
theorem gpl_f {σ : gT} {f i lo hi a b c : Nat} {F : Nat → Int32} (h : a ≠ f) : (gpl σ f i lo hi F).1 a b c = σ.1 a b c := if_neg (fun z => h z.1)
theorem gsc_f {σ : gT} {f i sp g k dp n a b c : Nat} (h : a ≠ g) : (gsc σ f i sp g k dp n).1 a b c = σ.1 a b c := if_neg (fun z => h z.1)
theorem gsc_y {σ : gT} {f i sp g k dp n c : Nat} (h : dp ≤ c ∧ c < dp + n) : (gsc σ f i sp g k dp n).1 g k c = σ.1 f i (sp + (c - dp)) := if_pos ⟨rfl, rfl, h⟩
theorem gsc_n {σ : gT} {f i sp g k dp n b c : Nat} (h : ¬ (b = k ∧ dp ≤ c ∧ c < dp + n)) : (gsc σ f i sp g k dp n).1 g b c = σ.1 g b c := if_neg (fun z => h z.2)
theorem ix3 (a i k : Nat) : (((64 : Int32) * nI a) + nI i) + nI k = nI (64 * a + i + k) := by rw [ix64, nI_add]
set_option maxHeartbeats 1000000 in
theorem v_copy {a i b j n : Nat} {τ : gT} {k : Int32 → gT → Prop} (ha : a < 8) (hb : b < 8) (hi : i + n ≤ 64) (hj : j + n ≤ 64) (up : Bool) (hu : up = true ↔ ¬ i < j) (h : k (nI n) (gpl τ 30 0 (64 * b + j) (64 * b + j + n) (fun c => τ.1 30 0 (64 * a + i + (c - (64 * b + j)))))) : wX10_copy_138 k (nI a) (nI i) (nI b) (nI j) (nI n) (if up = true then 1 else 0) τ := by
  unfold wX10_copy_138
  cases up with
  | true =>
    have hij : ¬ i < j := hu.mp rfl
    have key := gloop (N := n) (fun m q => wX10_copy_143 k m (nI a) (nI i) (nI b) (nI j) (nI n) 1 (nI q) (gpl τ 30 0 (64 * b + j) (64 * b + j + q) (fun c => τ.1 30 0 (64 * a + i + (c - (64 * b + j)))))) (by
      unfold wX10_copy_143
      exact ⟨fun _ => h, fun z => absurd (nI_le (Nat.le_refl n) (by omega)) z⟩) (by
      intro m q hq hm
      unfold wX10_copy_143 wX10_copy_167
      rw [ix3, ix3, nI_1, nI_clamp (show 64 * a + i + q < 2 ^ 31 by omega), nI_clamp (show 64 * b + j + q < 2 ^ 31 by omega)]
      refine ⟨fun z => absurd z (nI_ge hq (by omega)), fun _ => ⟨fun z => absurd z (by decide), fun _ => ⟨vp_in_nI (by omega) (by decide), vp_in_nI (by omega) (by decide), ?_⟩⟩⟩
      rw [gpl_n (by omega)]
      have e := gpl_up (σ := τ) (f := 30) (i := 0) (lo := 64 * b + j) (hi := 64 * b + j + q) (F := fun c => τ.1 30 0 (64 * a + i + (c - (64 * b + j)))) (by omega)
      rw [show 64 * b + j + q - (64 * b + j) = q by omega] at e
      rw [e]
      exact hm)
    rw [Nat.add_zero, gpl_e] at key
    exact key
  | false =>
    have hij : i < j := Classical.not_not.mp (fun z => absurd (hu.mpr z) (by decide))
    have key := gloop (N := n) (fun m q => wX10_copy_143 k m (nI a) (nI i) (nI b) (nI j) (nI n) 0 (nI q) (gpl τ 30 0 (64 * b + j + (n - q)) (64 * b + j + n) (fun c => τ.1 30 0 (64 * a + i + (c - (64 * b + j)))))) (by
      unfold wX10_copy_143
      rw [Nat.sub_self, Nat.add_zero]
      exact ⟨fun _ => h, fun z => absurd (nI_le (Nat.le_refl n) (by omega)) z⟩) (by
      intro m q hq hm
      have en : (nI n - 1) - nI q = nI (n - 1 - q) := by
        rw [show (1 : Int32) = nI 1 from rfl, pk_sub (by omega), pk_sub (by omega)]
      unfold wX10_copy_143 wX10_copy_167
      rw [en, ix3, ix3, nI_1, nI_clamp (show 64 * a + i + (n - 1 - q) < 2 ^ 31 by omega), nI_clamp (show 64 * b + j + (n - 1 - q) < 2 ^ 31 by omega)]
      refine ⟨fun z => absurd z (nI_ge hq (by omega)), fun _ => ⟨fun _ => ⟨vp_in_nI (by omega) (by decide), vp_in_nI (by omega) (by decide), ?_⟩, fun z => absurd rfl z⟩⟩
      rw [gpl_n (by omega)]
      have e := gpl_dn (σ := τ) (f := 30) (i := 0) (lo := 64 * b + j + (n - 1 - q)) (hi := 64 * b + j + n) (F := fun c => τ.1 30 0 (64 * a + i + (c - (64 * b + j)))) (by omega)
      rw [show 64 * b + j + (n - 1 - q) - (64 * b + j) = n - 1 - q by omega, show 64 * b + j + (n - 1 - q) + 1 = 64 * b + j + (n - q) by omega] at e
      rw [e, show n - 1 - q = n - (q + 1) by omega]
      exact hm)
    rw [Nat.sub_zero, gpl_e] at key
    exact key
set_option maxHeartbeats 1000000 in
theorem J_copy (x1 x2 x3 x4 x5 : Int32) {σ : gT} (h : gR σ) : wX9_copy x1 x2 x3 x4 x5 σ (fun r s1 => wX10_copy x1 x2 x3 x4 x5 s1 (fun r2 s2 => r = r2 ∧ gR s2)) := by
  unfold wX9_copy wX10_copy wX9_copy_49 wX9_copy_97 wX10_copy_45 wX10_copy_121 wX9_fine wX9_found wX10_finding
  rcases ixc 8 (by decide) (x := x1) with c | ⟨a, ha, rfl⟩
  · simp only [u_isSheet_out c, v_isSheet_out c, if0, if0n, if1, if1n, true_implies, not_true_eq_false, not_false_eq_true, false_implies, and_true, true_and, implies_true]
    exact gR_thrown h
  have ea : (nI a).toNatClampNeg = a := nI_clamp (by omega)
  have va : vp_in (nI a) 8 := vp_in_nI ha (by decide)
  simp only [u_isSheet_in ha, v_isSheet_in ha, if0, if0n, if1, if1n, true_implies, not_true_eq_false, not_false_eq_true, false_implies, and_true, true_and, implies_true, ea]
  rcases ixc 8 (by decide) (x := x3) with c | ⟨b, hb, rfl⟩
  · simp only [u_isSheet_out c, v_isSheet_out c, if0, if0n, if1, if1n, true_implies, not_true_eq_false, not_false_eq_true, false_implies, and_true, true_and, implies_true]
    exact gR_thrown h
  have eb : (nI b).toNatClampNeg = b := nI_clamp (by omega)
  have vb : vp_in (nI b) 8 := vp_in_nI hb (by decide)
  simp only [u_isSheet_in hb, v_isSheet_in hb, if0, if0n, if1, if1n, true_implies, not_true_eq_false, not_false_eq_true, false_implies, and_true, true_and, implies_true, eb]
  refine ⟨va, vb, ?_⟩
  obtain ⟨a1, a2⟩ := gRs_at h.1 ha
  obtain ⟨b1, b2⟩ := gRs_at h.1 hb
  have keep : ∀ x : Int32, gR (gsu (gsu (gsu (gsu σ 9 0 10 x) 10 0 0 0) 10 0 1 0) 10 0 1 x) := fun x => ⟨(by (repeat rw [gRs_su (by decide)]); exact h.1), (by (repeat rw [gRw_su (by decide)]); exact h.2.1), (by (repeat rw [gRp_su (by decide)]); exact h.2.2.1), (by (repeat rw [gRt_su (by decide)]); exact h.2.2.2.1), (by (repeat rw [gRa_su (by decide)]); exact h.2.2.2.2.1), (by (repeat rw [gRf_su (by decide)]); exact h.2.2.2.2.2.1), (by unfold gRz; simp (disch := decide) only [gsu_f, gsu_s, gsu_e])⟩
  rcases a2 with m | ⟨m, m2⟩
  · simp only [u_miss_y m, if0, if0n, if1, if1n, true_implies, not_true_eq_false, not_false_eq_true, false_implies, and_true, true_and, implies_true]
    refine ⟨va, fun _ => keep 1, fun z => absurd ?_ z⟩
    simp (disch := decide) only [gsu_f, gsu_s, gsu_e, gsl_f, gsl_g, gsl_s, gsl_e, gsu_g]
    rw [a1, m]; decide
  have am : ¬ σ.1 6 a 1 < 0 := nlt_le.mpr m2
  rcases b2 with mb | ⟨mb, mb2⟩
  · simp only [u_miss_n m, u_miss_y mb, if0, if0n, if1, if1n, true_implies, not_true_eq_false, not_false_eq_true, false_implies, and_true, true_and, implies_true]
    refine ⟨va, fun _ => keep 1, fun _ => ⟨vb, fun z => absurd z ?_, fun _ => keep 1⟩⟩
    simp (disch := decide) only [gsu_f, gsu_s, gsu_e, gsl_f, gsl_g, gsl_s, gsl_e, gsu_g]
    rw [b1, mb]; decide
  simp only [u_miss_n m, u_miss_n mb, if0, if0n, if1, if1n, true_implies, not_true_eq_false, not_false_eq_true, false_implies, and_true, true_and, implies_true]
  obtain ⟨na, hna, za1, za2⟩ := (h.1 a ha).2.2.1 m
  obtain ⟨nb, hnb, zb1, zb2⟩ := (h.1 b hb).2.2.1 mb
  refine ⟨fun el => ?_, fun el => ?_⟩
  · -- the lanes agree
    have MF : ∀ (C : ¬ (0 ≤ x2.toInt ∧ 0 ≤ x4.toInt ∧ 0 ≤ x5.toInt ∧ x2.toInt + x5.toInt ≤ na ∧ x4.toInt + x5.toInt ≤ nb)) (τ : gT) (k : Int32 → gT → Prop), τ.1 29 0 a = nI na → τ.1 29 0 b = nI nb → k (-1000012) (gsu τ 10 0 1 2) → ((x2 < 0 → k (-1000010 - 2) (gsu τ 10 0 1 2)) ∧ (¬ x2 < 0 → (x4 < 0 → k (-1000010 - 2) (gsu τ 10 0 1 2)) ∧ (¬ x4 < 0 → (x5 < 0 → k (-1000010 - 2) (gsu τ 10 0 1 2)) ∧ (¬ x5 < 0 → vp_in (nI a) 8 ∧ (0 < (lg_cmp (x2.toInt64 + x5.toInt64) (τ.1 29 0 a).toInt64) → k (-1000010 - 2) (gsu τ 10 0 1 2)) ∧ (¬ 0 < (lg_cmp (x2.toInt64 + x5.toInt64) (τ.1 29 0 a).toInt64) → vp_in (nI b) 8 ∧ ((lg_cmp (x4.toInt64 + x5.toInt64) (τ.1 29 0 b).toInt64) ≤ 0 → (x2 < x4 → wX10_copy_138 k (nI a) x2 (nI b) x4 x5 0 τ) ∧ (¬ x2 < x4 → wX10_copy_138 k (nI a) x2 (nI b) x4 x5 1 τ)) ∧ (¬ (lg_cmp (x4.toInt64 + x5.toInt64) (τ.1 29 0 b).toInt64) ≤ 0 → k (-1000010 - 2) (gsu τ 10 0 1 2))))))) := by
      intro C τ k t1 t2 hk
      rw [t1, t2, cmp_gt0, cmp_le0, fa_lt64, fa_le64, sum_toInt, sum_toInt, Int32.toInt_toInt64, Int32.toInt_toInt64, nI_toInt (by omega), nI_toInt (by omega)]
      refine ⟨fun _ => hk, fun c1 => ⟨fun _ => hk, fun c2 => ⟨fun _ => hk, fun c3 => ⟨va, fun _ => hk, fun c4 => ⟨vb, fun c5 => absurd ?_ C, fun _ => hk⟩⟩⟩⟩⟩
      rw [fa_lt] at c1 c2 c3
      have c1 : ¬ x2.toInt < 0 := c1
      have c2 : ¬ x4.toInt < 0 := c2
      have c3 : ¬ x5.toInt < 0 := c3
      omega
    have l28 : ∀ x : Int32, (gsu (gsu (gsu σ 9 0 10 x) 10 0 0 0) 10 0 1 0).1 28 0 a = σ.1 6 a 1 := fun x => by simp (disch := decide) only [gsu_f, gsu_s, gsu_e, gsl_f, gsl_g, gsl_s, gsl_e, gsu_g]; exact a1
    have l28b : ∀ x : Int32, (gsu (gsu (gsu σ 9 0 10 x) 10 0 0 0) 10 0 1 0).1 28 0 b = σ.1 6 b 1 := fun x => by simp (disch := decide) only [gsu_f, gsu_s, gsu_e, gsl_f, gsl_g, gsl_s, gsl_e, gsu_g]; exact b1
    have l29 : ∀ x : Int32, (gsu (gsu (gsu σ 9 0 10 x) 10 0 0 0) 10 0 1 0).1 29 0 a = nI na := fun x => by simp (disch := decide) only [gsu_f, gsu_s, gsu_e, gsl_f, gsl_g, gsl_s, gsl_e, gsu_g]; exact za2
    have l29b : ∀ x : Int32, (gsu (gsu (gsu σ 9 0 10 x) 10 0 0 0) 10 0 1 0).1 29 0 b = nI nb := fun x => by simp (disch := decide) only [gsu_f, gsu_s, gsu_e, gsl_f, gsl_g, gsl_s, gsl_e, gsu_g]; exact zb2
    by_cases C : 0 ≤ x2.toInt ∧ 0 ≤ x4.toInt ∧ 0 ≤ x5.toInt ∧ x2.toInt + x5.toInt ≤ na ∧ x4.toInt + x5.toInt ≤ nb
    · obtain ⟨c1, c2, c3, c4, c5⟩ := C
      rw [u_reach_y hna za1 ⟨c1, c3, c4⟩, u_reach_y hnb zb1 ⟨c2, c3, c5⟩]
      obtain ⟨i, hi0, rfl⟩ := nI_of (x := x2) (by rw [fa_lt]; show ¬ x2.toInt < 0; omega)
      obtain ⟨j, hj0, rfl⟩ := nI_of (x := x4) (by rw [fa_lt]; show ¬ x4.toInt < 0; omega)
      obtain ⟨n, hn0, rfl⟩ := nI_of (x := x5) (by rw [fa_lt]; show ¬ x5.toInt < 0; omega)
      rw [nI_toInt hi0, nI_toInt hn0] at c4
      rw [nI_toInt hj0, nI_toInt hn0] at c5
      simp only [if0, if0n, if1, if1n, true_implies, not_true_eq_false, not_false_eq_true, false_implies, and_true, true_and, implies_true]
      have ei : (nI i).toNatClampNeg = i := nI_clamp hi0
      have ej : (nI j).toNatClampNeg = j := nI_clamp hj0
      have en : (nI n).toNatClampNeg = n := nI_clamp hn0
      simp only [ei, ej, en]
      refine ⟨nI_pos hi0, nI_pos hj0, nI_pos hn0, by omega, by omega, va, fun z => absurd z ?_, fun _ => ⟨vb, fun _ => ⟨va, vb, fun _ => ⟨fun z => absurd z (nI_pos hi0), fun _ => ⟨fun z => absurd z (nI_pos hj0), fun _ => ⟨fun z => absurd z (nI_pos hn0), fun _ => ⟨va, fun z => absurd z ?_, fun _ => ⟨vb, fun _ => ?_, fun z => absurd ?_ z⟩⟩⟩⟩⟩, fun z => absurd ?_ z⟩, fun z => absurd ?_ z⟩⟩
      · simp (disch := decide) only [gsu_f, gsu_s, gsu_e, gsl_f, gsl_g, gsl_s, gsl_e, gsu_g]
        rw [gsc_f (by decide), a1]
        exact am
      · simp (disch := decide) only [gsu_f, gsu_s, gsu_e, gsl_f, gsl_g, gsl_s, gsl_e, gsu_g]
        rw [gsc_f (by decide), za2, cmp_gt0, fa_lt64, sum_toInt, Int32.toInt_toInt64, nI_toInt hi0, nI_toInt hn0, nI_toInt (by omega)]
        omega
      · have fin : gR (gpl (gsu (gsu (gsu (gsc σ 21 a i 21 b j n) 9 0 10 0) 10 0 0 0) 10 0 1 0) 30 0 (64 * b + j) (64 * b + j + n) (fun c => (gsu (gsu (gsu (gsc σ 21 a i 21 b j n) 9 0 10 0) 10 0 0 0) 10 0 1 0).1 30 0 (64 * a + i + (c - (64 * b + j))))) := by
          have ec : ∀ f u v, f ≠ 21 → f ≠ 30 → f ≠ 9 → f ≠ 10 → (gpl (gsu (gsu (gsu (gsc σ 21 a i 21 b j n) 9 0 10 0) 10 0 0 0) 10 0 1 0) 30 0 (64 * b + j) (64 * b + j + n) (fun c => (gsu (gsu (gsu (gsc σ 21 a i 21 b j n) 9 0 10 0) 10 0 0 0) 10 0 1 0).1 30 0 (64 * a + i + (c - (64 * b + j))))).1 f u v = σ.1 f u v := fun f u v f1 f2 f3 f4 => by
            rw [gpl_f f2, gsu_f f4, gsu_f f4, gsu_f f3]
            exact gsc_f f1
          have s10 : ∀ f u v, f ≠ 21 → (gsc σ 21 a i 21 b j n).1 f u v = σ.1 f u v := fun f u v f1 => gsc_f f1
          refine ⟨?_, (gRw_cong (fun f u v hf => ec f u v (by omega) (by omega) (by omega) (by omega))).mpr h.2.1, (gRp_cong (fun f u v hf => ec f u v (by omega) (by omega) (by omega) (by omega))).mpr h.2.2.1, ?_, ?_, ?_, ?_⟩
          · intro s hs
            obtain ⟨q1, q2, q3, q4⟩ := h.1 s hs
            rw [ec 28 _ _ (by decide) (by decide) (by decide) (by decide), ec 6 _ _ (by decide) (by decide) (by decide) (by decide), ec 6 _ _ (by decide) (by decide) (by decide) (by decide), ec 29 _ _ (by decide) (by decide) (by decide) (by decide)]
            refine ⟨q1, q2, q3, fun q hq => ?_⟩
            rw [gpl_f (show (21 : Nat) ≠ 30 by decide)]
            simp (disch := decide) only [gsu_f, gsu_s, gsu_e, gsl_f, gsl_g, gsl_s, gsl_e, gsu_g]
            have q4a := (h.1 a ha).2.2.2
            by_cases e : s = b ∧ j ≤ q ∧ q < j + n
            · obtain ⟨rfl, e2⟩ := e
              rw [gpl_y (by omega)]
              rw [gsc_y e2, s10 30 _ _ (by decide)]
              rw [show 64 * a + i + (64 * s + q - (64 * s + j)) = 64 * a + (i + (q - j)) by omega]
              exact q4a _ (by omega)
            · rw [gpl_n (by omega)]
              simp (disch := decide) only [gsu_f, gsu_s, gsu_e, gsl_f, gsl_g, gsl_s, gsl_e, gsu_g]
              rw [gsc_n e, s10 30 _ _ (by decide)]
              exact q4 q hq
          · obtain ⟨m, hm, t1, t2, t3⟩ := h.2.2.2.1
            refine ⟨m, hm, by rw [ec 7 _ _ (by decide) (by decide) (by decide) (by decide)]; exact t1, ?_, fun q hq => ?_⟩
            · rw [gpl_f (by decide), gsu_s (by decide), gsu_s (by decide), gsu_f (by decide), s10 10 _ _ (by decide)]; exact t2
            · rw [ec 22 _ _ (by decide) (by decide) (by decide) (by decide), ec 35 _ _ (by decide) (by decide) (by decide) (by decide)]
              exact t3 q hq
          · obtain ⟨m, hm, t1, t2, t3⟩ := h.2.2.2.2.1
            refine ⟨m, hm, by rw [ec 0 _ _ (by decide) (by decide) (by decide) (by decide)]; exact t1, ?_, fun q hq => ?_⟩
            · rw [gpl_f (by decide), gsu_s (by decide), gsu_s (by decide), gsu_f (by decide), s10 10 _ _ (by decide)]; exact t2
            · rw [ec 11 _ _ (by decide) (by decide) (by decide) (by decide), ec 38 _ _ (by decide) (by decide) (by decide) (by decide)]
              exact t3 q hq
          · unfold gRf
            rw [gpl_f (by decide), gsu_s (by decide), gsu_s (by decide), gsu_f (by decide), s10 10 _ _ (by decide), gpl_f (by decide), gsu_f (by decide), gsu_f (by decide), gsu_s (by decide), s10 9 _ _ (by decide)]
            exact h.2.2.2.2.2.1
          · unfold gRz
            rw [gpl_f (by decide), gsu_e, gpl_f (by decide), gsu_f (by decide), gsu_f (by decide), gsu_e]
        refine ⟨fun z => ?_, fun z => ?_⟩
        · rw [nI_ltI hi0 hj0] at z
          exact v_copy ha hb (by omega) (by omega) false (by constructor <;> intro y <;> first | exact absurd y (by decide) | exact absurd z y) ⟨rfl, fin⟩
        · rw [nI_ltI hi0 hj0] at z
          exact v_copy ha hb (by omega) (by omega) true (by constructor <;> intro y <;> first | exact z | rfl) ⟨rfl, fin⟩
      · simp (disch := decide) only [gsu_f, gsu_s, gsu_e, gsl_f, gsl_g, gsl_s, gsl_e, gsu_g]
        rw [gsc_f (by decide), zb2, cmp_le0, fa_le64, sum_toInt, Int32.toInt_toInt64, nI_toInt hj0, nI_toInt hn0, nI_toInt (by omega)]
        exact c5
      · simp (disch := decide) only [gsu_f, gsu_s, gsu_e, gsl_f, gsl_g, gsl_s, gsl_e, gsu_g]
        rw [gsc_f (by decide), gsc_f (by decide), a1, b1]
        exact el
      · simp (disch := decide) only [gsu_f, gsu_s, gsu_e, gsl_f, gsl_g, gsl_s, gsl_e, gsu_g]
        rw [gsc_f (by decide), b1]
        exact mb2
    · have go : ∀ r : Int32, r = -1000012 → (vp_in (nI a) 8 ∧ ((gsu (gsu (gsu σ 9 0 10 2) 10 0 0 0) 10 0 1 0).1 28 0 a < 0 → r = -1000010 - 1 ∧ gR (gsu (gsu (gsu (gsu σ 9 0 10 2) 10 0 0 0) 10 0 1 0) 10 0 1 1)) ∧ (¬ (gsu (gsu (gsu σ 9 0 10 2) 10 0 0 0) 10 0 1 0).1 28 0 a < 0 → vp_in (nI b) 8 ∧ (0 ≤ (gsu (gsu (gsu σ 9 0 10 2) 10 0 0 0) 10 0 1 0).1 28 0 b → vp_in (nI a) 8 ∧ vp_in (nI b) 8 ∧ ((gsu (gsu (gsu σ 9 0 10 2) 10 0 0 0) 10 0 1 0).1 28 0 a = (gsu (gsu (gsu σ 9 0 10 2) 10 0 0 0) 10 0 1 0).1 28 0 b → ((x2 < 0 → r = (-1000010 - 2) ∧ gR (gsu (gsu (gsu (gsu σ 9 0 10 2) 10 0 0 0) 10 0 1 0) 10 0 1 2)) ∧ (¬ x2 < 0 → (x4 < 0 → r = (-1000010 - 2) ∧ gR (gsu (gsu (gsu (gsu σ 9 0 10 2) 10 0 0 0) 10 0 1 0) 10 0 1 2)) ∧ (¬ x4 < 0 → (x5 < 0 → r = (-1000010 - 2) ∧ gR (gsu (gsu (gsu (gsu σ 9 0 10 2) 10 0 0 0) 10 0 1 0) 10 0 1 2)) ∧ (¬ x5 < 0 → vp_in (nI a) 8 ∧ (0 < (lg_cmp (x2.toInt64 + x5.toInt64) ((gsu (gsu (gsu σ 9 0 10 2) 10 0 0 0) 10 0 1 0).1 29 0 a).toInt64) → r = (-1000010 - 2) ∧ gR (gsu (gsu (gsu (gsu σ 9 0 10 2) 10 0 0 0) 10 0 1 0) 10 0 1 2)) ∧ (¬ 0 < (lg_cmp (x2.toInt64 + x5.toInt64) ((gsu (gsu (gsu σ 9 0 10 2) 10 0 0 0) 10 0 1 0).1 29 0 a).toInt64) → vp_in (nI b) 8 ∧ ((lg_cmp (x4.toInt64 + x5.toInt64) ((gsu (gsu (gsu σ 9 0 10 2) 10 0 0 0) 10 0 1 0).1 29 0 b).toInt64) ≤ 0 → (x2 < x4 → wX10_copy_138 (fun r2 s2 => r = r2 ∧ gR s2) (nI a) x2 (nI b) x4 x5 0 (gsu (gsu (gsu σ 9 0 10 2) 10 0 0 0) 10 0 1 0)) ∧ (¬ x2 < x4 → wX10_copy_138 (fun r2 s2 => r = r2 ∧ gR s2) (nI a) x2 (nI b) x4 x5 1 (gsu (gsu (gsu σ 9 0 10 2) 10 0 0 0) 10 0 1 0))) ∧ (¬ (lg_cmp (x4.toInt64 + x5.toInt64) ((gsu (gsu (gsu σ 9 0 10 2) 10 0 0 0) 10 0 1 0).1 29 0 b).toInt64) ≤ 0 → r = (-1000010 - 2) ∧ gR (gsu (gsu (gsu (gsu σ 9 0 10 2) 10 0 0 0) 10 0 1 0) 10 0 1 2)))))))) ∧ (¬ (gsu (gsu (gsu σ 9 0 10 2) 10 0 0 0) 10 0 1 0).1 28 0 a = (gsu (gsu (gsu σ 9 0 10 2) 10 0 0 0) 10 0 1 0).1 28 0 b → r = -1000010 - 5 ∧ gR (gsu (gsu (gsu (gsu σ 9 0 10 2) 10 0 0 0) 10 0 1 0) 10 0 1 5))) ∧ (¬ 0 ≤ (gsu (gsu (gsu σ 9 0 10 2) 10 0 0 0) 10 0 1 0).1 28 0 b → r = -1000010 - 1 ∧ gR (gsu (gsu (gsu (gsu σ 9 0 10 2) 10 0 0 0) 10 0 1 0) 10 0 1 1)))) := by
        intro r hr
        refine ⟨va, fun z => absurd z (by rw [l28]; exact am), fun _ => ⟨vb, fun _ => ⟨va, vb, fun _ => MF C _ (fun r2 s2 => r = r2 ∧ gR s2) (l29 2) (l29b 2) ⟨hr, keep 2⟩, fun z => absurd (by rw [l28, l28b]; exact el) z⟩, fun z => absurd (by rw [l28b]; exact mb2) z⟩⟩
      by_cases C1 : 0 ≤ x2.toInt ∧ 0 ≤ x5.toInt ∧ x2.toInt + x5.toInt ≤ na
      · rw [u_reach_y hna za1 C1, u_reach_n hnb zb1 (fun z => C ⟨C1.1, z.1, C1.2.1, C1.2.2, z.2.2⟩)]
        simp only [if0, if0n, if1, if1n, true_implies, not_true_eq_false, not_false_eq_true, false_implies, and_true, true_and, implies_true]
        have g2 := go (-1000010 - 2) (by decide)
        simp only [if0, if0n, if1, if1n, true_implies, not_true_eq_false, not_false_eq_true, false_implies, and_true, true_and, implies_true] at g2
        exact g2
      · rw [u_reach_n hna za1 C1]
        simp only [if0, if0n, if1, if1n, true_implies, not_true_eq_false, not_false_eq_true, false_implies, and_true, true_and, implies_true]
        have g2 := go (-1000010 - 2) (by decide)
        simp only [if0, if0n, if1, if1n, true_implies, not_true_eq_false, not_false_eq_true, false_implies, and_true, true_and, implies_true] at g2
        exact g2
  · refine ⟨va, fun z => absurd z ?_, fun _ => ⟨vb, fun _ => ⟨va, vb, fun z => absurd ?_ el, fun _ => keep 5⟩, fun z => absurd ?_ z⟩⟩
    · simp (disch := decide) only [gsu_f, gsu_s, gsu_e, gsl_f, gsl_g, gsl_s, gsl_e, gsu_g]
      rw [a1]; exact am
    · simp (disch := decide) only [gsu_f, gsu_s, gsu_e, gsl_f, gsl_g, gsl_s, gsl_e, gsu_g] at z
      rw [← a1, ← b1]; exact z
    · simp (disch := decide) only [gsu_f, gsu_s, gsu_e, gsl_f, gsl_g, gsl_s, gsl_e, gsu_g]
      rw [b1]; exact mb2
