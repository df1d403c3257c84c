/-! PURE: feed -/
theorem fd_u (w : Int64) : ∀ k : Fin 8, (w.toUInt64 >>> ((((8 : Int32) * nI k) : Int32).toInt64.toUInt64 &&& Int64.toUInt64 63)).toInt64.toBitVec = w.toBitVec >>> (8 * (k : Nat)) := by
  intro k
  show (w.toUInt64 >>> _).toBitVec = _
  rw [UInt64.toBitVec_shiftRight]
  show w.toBitVec >>> _ = _
  have e : ((((8 : Int32) * nI k) : Int32).toInt64.toUInt64 &&& Int64.toUInt64 63).toBitVec % 64 = BitVec.ofNat 64 (8 * (k : Nat)) := by
    revert k; decide +kernel
  rw [e]
  have h2 := k.isLt
  rw [BitVec.ushiftRight_eq', BitVec.toNat_ofNat, Nat.mod_eq_of_lt (by omega)]
theorem fd_s (w : Int64) : ∀ k : Fin 8, ((w >>> ((((8 : Int32) * nI k) : Int32).toInt64 &&& 63)) &&& (255 : Int64)).toBitVec = (w.toBitVec.sshiftRight (8 * (k : Nat))) &&& 255#64 := by
  intro k
  rw [Int64.toBitVec_and, Int64.toBitVec_shiftRight]
  have e : (((((8 : Int32) * nI k) : Int32).toInt64 &&& 63).toBitVec.smod 64) = BitVec.ofNat 64 (8 * (k : Nat)) := by
    revert k; decide +kernel
  rw [e]
  have h2 := k.isLt
  show (w.toBitVec.sshiftRight (BitVec.ofNat 64 (8 * (k : Nat))).toNat) &&& _ = _
  rw [BitVec.toNat_ofNat, Nat.mod_eq_of_lt (by omega)]
  rfl
set_option maxHeartbeats 1000000 in
theorem fd_b (w : Int64) (k : Fin 8) : ∃ b, b < 256 ∧ ((w >>> ((((8 : Int32) * nI k) : Int32).toInt64 &&& 63)) &&& (255 : Int64)).toInt32 = nI b ∧ (w.toUInt64 >>> ((((8 : Int32) * nI k) : Int32).toInt64.toUInt64 &&& Int64.toUInt64 63)).toInt64.toInt32.toInt8 = (nI b).toInt8 := by
  have h1 := fd_u w k
  have h2 := fd_s w k
  generalize (w.toUInt64 >>> ((((8 : Int32) * nI k) : Int32).toInt64.toUInt64 &&& Int64.toUInt64 63)).toInt64 = U at h1 ⊢
  generalize ((w >>> ((((8 : Int32) * nI k) : Int32).toInt64 &&& 63)) &&& (255 : Int64)) = M at h2 ⊢
  have e32 : M.toInt32 = nI M.toBitVec.toNat := by
    apply Int32.toBitVec_inj.mp
    rw [Int64.toBitVec_toInt32, BitVec.signExtend_eq_setWidth_of_le _ (by decide)]
    show _ = BitVec.ofNat 32 M.toBitVec.toNat
    rw [BitVec.ofNat_toNat]
  refine ⟨M.toBitVec.toNat, ?_, e32, ?_⟩
  · rw [h2, BitVec.toNat_and]
    exact Nat.and_lt_two_pow _ (n := 8) (by decide)
  · rw [← e32]
    apply Int8.toBitVec_inj.mp
    rw [Int32.toBitVec_toInt8, Int32.toBitVec_toInt8, Int64.toBitVec_toInt32, Int64.toBitVec_toInt32, h1, h2]
    have hk := k.isLt
    rw [BitVec.signExtend_eq_setWidth_of_le _ (by decide), BitVec.signExtend_eq_setWidth_of_le _ (by decide), BitVec.signExtend_eq_setWidth_of_le _ (by decide), BitVec.signExtend_eq_setWidth_of_le _ (by decide)]
    apply BitVec.eq_of_getLsbD_eq
    intro i hi
    have h255 : (255#64).getLsbD i = true := by
      have : ∀ i : Fin 8, (255#64).getLsbD i = true := by decide +kernel
      exact this ⟨i, hi⟩
    simp only [BitVec.getLsbD_setWidth, BitVec.getLsbD_ushiftRight, BitVec.getLsbD_and, BitVec.getLsbD_sshiftRight, h255, Bool.and_true]
    have e1 : 8 * (k : Nat) + i < 64 := by omega
    have e2 : i < 32 := by omega
    have e3 : ¬ 64 ≤ i := by omega
    simp [e1, e2, e3, hi]
/-- the byte that the class keeps of a word, and the model's -/
def gfdc (w : Int64) (j : Nat) : Int32 := vp_nar .byte ((w.toUInt64 >>> ((((8 : Int32) * nI j) : Int32).toInt64.toUInt64 &&& Int64.toUInt64 63)).toInt64.toInt32).toInt8.toInt32
def gfdm (w : Int64) (j : Nat) : Int32 := ((w >>> ((((8 : Int32) * nI j) : Int32).toInt64 &&& 63)) &&& (255 : Int64)).toInt32
theorem gf_rel (w : Int64) {j : Nat} (hj : j < 8) : ∃ b, b < 256 ∧ gfdc w j = (nI b).toInt8.toInt32 ∧ gfdm w j = nI b := by
  obtain ⟨b, h1, h2, h3⟩ := fd_b w ⟨j, hj⟩
  refine ⟨b, h1, ?_, h2⟩
  unfold gfdc
  rw [pk_vb]
  exact congrArg Int8.toInt32 h3
theorem gsu_id {σ : gT} {f i j : Nat} {x : Int32} (h : σ.1 f i j = x) : gsu σ f i j x = σ := by
  refine Prod.ext ?_ rfl
  funext a b c
  rw [gsu_1]
  by_cases h1 : a = f ∧ b = i ∧ c = j
  · rw [if_pos h1, h1.1, h1.2.1, h1.2.2, h]
  · rw [if_neg h1]
theorem gsu_mid {σ : gT} {f i j g u v : Nat} {x y z : Int32} (h : f ≠ g) : gsu (gsu (gsu σ f i j x) g u v y) f i j z = gsu (gsu σ g u v y) f i j z := by
  refine Prod.ext ?_ rfl
  funext a b c
  simp only [gsu_1]
  by_cases h1 : a = f ∧ b = i ∧ c = j
  · simp only [if_pos h1]
  · by_cases h2 : a = g ∧ b = u ∧ c = v
    · simp only [if_neg h1, if_pos h2]
    · simp only [if_neg h1, if_neg h2]
theorem dn1 {n q : Nat} (h : q < n) : nI (n - q) - 1 = nI (n - 1 - q) := by
  rw [show n - q = (n - 1 - q) + 1 by omega, nI_pred]
theorem dn2 {n q : Nat} (h : q < n) : nI (n - 1 - q) + (-1) = nI (n - (q + 1)) - 1 := by
  rw [show n - (q + 1) = n - 1 - q by omega]
  show _ = _
  rw [fa_eq]
  by_cases c : n - 1 - q = 0
  · rw [c]; decide
  · obtain ⟨m, hm⟩ : ∃ m, n - 1 - q = m + 1 := ⟨n - 1 - q - 1, by omega⟩
    rw [hm, nI_pred, pk_m1]
set_option maxHeartbeats 1000000 in
theorem J_feed (y1 : Int64) (x3 : Int32) {σ : gT} (h : gR σ) : wX9_feed y1 x3 σ (fun r s1 => wX10_feed y1 x3 s1 (fun r2 s2 => r = r2 ∧ gR s2)) := by
  unfold wX9_feed wX10_feed
  have kb : gR (gsu σ 10 0 0 0) := gR_thrown h
  have l1 : (1 : Int64).toInt = 1 := by decide
  have l8 : (8 : Int64).toInt = 8 := by decide
  have i1 : (1 : Int32).toInt = 1 := by decide
  have i8 : (8 : Int32).toInt = 8 := by decide
  by_cases c : 1 ≤ x3.toInt ∧ x3.toInt ≤ 8
  · have hin : ∀ (σ : gT) (k : Int32 → gT → Prop), wX10_in x3.toInt64 (1 : Int64) (8 : Int64) σ k ↔ k 1 σ := fun σ k => v_in_in (by rw [fa_le64, l1, Int32.toInt_toInt64]; exact c.1) (by rw [fa_le64, l8, Int32.toInt_toInt64]; exact c.2)
    have c1 : ¬ x3 < 1 := by rw [fa_lt, i1]; omega
    have c2 : x3 ≤ 8 := by rw [fa_le, i8]; exact c.2
    obtain ⟨n, hn, rfl⟩ := nI_of2 (x := x3) (M := 8) (n := 8) (by decide) (by rw [fa_lt]; show ¬ x3.toInt < 0; omega) c2
    have hn1 : 1 ≤ n := by rw [nI_toInt (by omega)] at c; omega
    simp only [hin, if0, if0n, if1, if1n, true_implies, not_true_eq_false, not_false_eq_true, false_implies, and_true, true_and, implies_true]
    refine ⟨fun z => absurd z c1, fun _ => ⟨fun _ => ?_, fun z => absurd c2 z⟩⟩
    obtain ⟨l, hl, t1, t2, t3⟩ := h.2.2.2.1
    unfold wX7_append
    rw [t1]
    have e4 : (400 : Int32) - nI l = nI (400 - l) := by rw [show (400 : Int32) = nI 400 from rfl, pk_sub (by omega)]
    have e5 : (nI l + nI n ≤ 400) ↔ l + n ≤ 400 := by rw [nI_add, show (400 : Int32) = nI 400 from rfl, nI_leI (by omega) (by decide)]
    rw [e4, nI_leI (by omega) (by omega)]
    have e0 : nI n - 1 = nI (n - 0) - 1 := rfl
    refine ⟨fun cf => ?_, fun cf => ⟨Or.inl rfl, ⟨fun _ => ?_, fun z => absurd rfl z⟩⟩⟩
    · have U : ∀ k : Int32 → gT → Prop, k 1 (gsu (grw σ 22 0 l (fun c => gfdc y1 (n - 1 - c)) n) 7 0 1 (nI (l + n))) → ∃ m, wX7_append_19 k m y1 (nI n - 1) σ := by
        intro k hk
        have key := gloop (N := n) (fun m q => wX7_append_19 k m y1 (nI (n - q) - 1) (gsu (grw σ 22 0 l (fun c => gfdc y1 (n - 1 - c)) q) 7 0 1 (nI (l + q)))) (by
          unfold wX7_append_19
          rw [Nat.sub_self]
          exact ⟨fun _ => ⟨Or.inr rfl, hk⟩, fun z => absurd (by decide) z⟩) (by
          intro m q hq hm
          unfold wX7_append_19
          rw [dn1 hq, dn2 hq, gsu_e, nI_clamp (show l + q < 2 ^ 31 by omega), gsu_f (show (7 : Nat) ≠ 22 by decide), gsu_e, nI_1]
          refine ⟨fun z => absurd z (nI_pos (by omega)), fun _ => ⟨vp_in_nI (by omega) (by decide), ?_⟩⟩
          rw [gsu_mid (by decide)]
          have e := grw_s (σ := σ) (f := 22) (i := 0) (o := l) (n := q) (g := fun c => gfdc y1 (n - 1 - c))
          rw [← e] at hm
          exact hm)
        rw [grw_0, Nat.add_zero, gsu_id t1] at key
        exact key
      have V : ∀ (τ : gT) (k : Int32 → gT → Prop), τ.1 10 0 10 = nI l → k (nI (l + n)) (gsu (grw τ 35 0 l (fun c => gfdm y1 (n - 1 - c)) n) 10 0 10 (nI (l + n))) → ∃ m, wX10_feed_40 k m y1 (nI n - 1) τ := by
        intro τ k ht hk
        have key := gloop (N := n) (fun m q => wX10_feed_40 k m y1 (nI (n - q) - 1) (gsu (grw τ 35 0 l (fun c => gfdm y1 (n - 1 - c)) q) 10 0 10 (nI (l + q)))) (by
          unfold wX10_feed_40
          rw [Nat.sub_self, gsu_e]
          exact ⟨fun _ => hk, fun z => absurd (by decide) z⟩) (by
          intro m q hq hm
          unfold wX10_feed_40
          rw [dn1 hq, dn2 hq, gsu_e, nI_clamp (show l + q < 2 ^ 31 by omega), gsu_f (show (10 : Nat) ≠ 35 by decide), gsu_e, nI_1]
          refine ⟨fun z => absurd z (nI_pos (by omega)), fun _ => ⟨vp_in_nI (by omega) (by decide), ?_⟩⟩
          rw [gsu_mid (by decide)]
          have e := grw_s (σ := τ) (f := 35) (i := 0) (o := l) (n := q) (g := fun c => gfdm y1 (n - 1 - c))
          rw [← e] at hm
          exact hm)
        rw [grw_0, Nat.add_zero, gsu_id ht] at key
        exact key
      refine U _ ⟨fun z => absurd z (by decide), fun _ => ⟨fun _ => V _ _ ?_ ⟨?_, ?_⟩, fun z => absurd ?_ z⟩⟩
      · simp (disch := decide) only [gsu_f, gsu_s, gsu_e, gsl_f, gsl_g, gsl_s, gsl_e, gsu_g, grw_f, grw_g]
        exact t2
      · rw [gsu_e]
      · refine ⟨?_, ?_, ?_, ?_, ?_, ?_, ?_⟩
        · repeat (first | rw [gRs_sr (by decide)] | rw [gRs_su (by decide)])
          exact h.1
        · repeat (first | rw [gRw_sr (by decide)] | rw [gRw_su (by decide)])
          exact h.2.1
        · repeat (first | rw [gRp_sr (by decide)] | rw [gRp_su (by decide)])
          exact h.2.2.1
        · refine ⟨l + n, by omega, ?_, gsu_e, fun q hq => ?_⟩
          · simp (disch := decide) only [gsu_f, gsu_s, gsu_e, gsl_f, gsl_g, gsl_s, gsl_e, gsu_g, grw_f, grw_g]
          · simp (disch := decide) only [gsu_f, gsu_s, gsu_e, gsl_f, gsl_g, gsl_s, gsl_e, gsu_g, grw_f, grw_g]
            by_cases cq : q < l
            · rw [grw_out (by omega), grw_out (by omega)]
              try simp (disch := decide) only [gsu_f, gsu_s, gsu_e, gsl_f, gsl_g, gsl_s, gsl_e, gsu_g, grw_f, grw_g]
              exact t3 q cq
            · obtain ⟨d, rfl⟩ : ∃ d, q = l + d := ⟨q - l, by omega⟩
              rw [grw_in (by omega), grw_in (by omega)]
              exact gf_rel y1 (by omega)
        · repeat (first | rw [gRa_su (by decide)] | rw [gRa_sr (by decide)])
          exact h.2.2.2.2.1
        · repeat (first | rw [gRf_su (by decide)] | rw [gRf_sr (by decide)])
          exact h.2.2.2.2.2.1
        · repeat (first | rw [gRz_su (by decide)] | rw [gRz_sr (by decide)])
          exact h.2.2.2.2.2.2
      · simp (disch := decide) only [gsu_f, gsu_s, gsu_e, gsl_f, gsl_g, gsl_s, gsl_e, gsu_g, grw_f, grw_g]
        rw [t2]
        exact e5.mpr (by omega)
    · simp (disch := decide) only [gsu_f, gsu_s, gsu_e, gsl_f, gsl_g, gsl_s, gsl_e, gsu_g]
      rw [t2, e5]
      exact ⟨fun z => by omega, fun _ => kb⟩
  · have hin : ∀ (σ : gT) (k : Int32 → gT → Prop), wX10_in x3.toInt64 (1 : Int64) (8 : Int64) σ k ↔ k 0 σ := fun σ k => v_in_out (by rw [fa_lt64, fa_lt64, l1, l8, Int32.toInt_toInt64]; omega)
    simp only [hin, if0, if0n, if1, if1n, true_implies, not_true_eq_false, not_false_eq_true, false_implies, and_true, true_and, implies_true]
    refine ⟨fun _ => kb, fun c1 => ⟨fun c2 => ?_, fun _ => kb⟩⟩
    rw [fa_lt, i1] at c1
    rw [fa_le, i8] at c2
    omega
