/-! PURE: counting, bits, what a plate keeps -/
def gct (p : Nat → Bool) : Nat → Nat
  | 0 => 0
  | n + 1 => gct p n + (if p n = true then 1 else 0)
theorem gct_s (p : Nat → Bool) (n : Nat) : gct p (n + 1) = gct p n + (if p n = true then 1 else 0) := rfl
theorem gct_le (p : Nat → Bool) : ∀ n, gct p n ≤ n
  | 0 => Nat.le_refl 0
  | n + 1 => by
    have := gct_le p n
    rw [gct_s]
    split <;> omega
theorem gct_cong {p q : Nat → Bool} : ∀ {n : Nat}, (∀ j, j < n → p j = q j) → gct p n = gct q n
  | 0, _ => rfl
  | n + 1, h => by rw [gct_s, gct_s, gct_cong (fun j hj => h j (by omega)), h n (by omega)]
set_option maxHeartbeats 1000000 in
theorem gct_zero {p : Nat → Bool} : ∀ {n : Nat}, gct p n = 0 ↔ ∀ j, j < n → p j = false
  | 0 => ⟨fun _ j hj => absurd hj (Nat.not_lt_zero j), fun _ => rfl⟩
  | n + 1 => by
    rw [gct_s]
    have ih := gct_zero (p := p) (n := n)
    constructor
    · intro h j hj
      have h1 : gct p n = 0 := by omega
      rcases Nat.lt_or_ge j n with q | q
      · exact ih.mp h1 j q
      · have : j = n := by omega
        subst this
        cases hp : p j with
        | false => rfl
        | true => rw [hp] at h; simp at h
    · intro h
      rw [ih.mpr (fun j hj => h j (by omega)), h n (by omega)]
      simp
theorem sm_ix : ∀ k : Fin 16, ((nI k &&& (31 : Int32)).toBitVec.smod 32).toNat = k := by decide +kernel
theorem bit_n {m k : Nat} (hm : m < 2 ^ 31) (hk : k < 16) : (nI m >>> (nI k &&& (31 : Int32))) &&& (1 : Int32) = nI (m / 2 ^ k % 2) := by
  rw [pk_shrN hm (nI k &&& 31) k (sm_ix ⟨k, hk⟩), pk_andN (m := 1) (Nat.lt_of_le_of_lt (Nat.div_le_self m (2 ^ k)) (by omega)) 1 (by decide)]
theorem bit_ix {m k : Nat} (hm : m < 2 ^ 31) (hk : k < 16) : ((nI m >>> (nI k &&& (31 : Int32))) &&& (1 : Int32)) = 1 ↔ m.testBit k = true := by
  rw [bit_n hm hk, Nat.testBit_eq_decide_div_mod_eq, decide_eq_true_iff, show (1 : Int32) = nI 1 from rfl, nI_eq (by omega) (by decide)]
def gbc (x0 : Int32) : Int32 := ((((((((x0 - (((x0 : Int32).toUInt32 >>> (((1 : Int32) : Int32).toUInt32 &&& Int32.toUInt32 31)).toInt32 &&& (1431655765 : Int32))) &&& (858993459 : Int32)) + ((((x0 - (((x0 : Int32).toUInt32 >>> (((1 : Int32) : Int32).toUInt32 &&& Int32.toUInt32 31)).toInt32 &&& (1431655765 : Int32))) : Int32).toUInt32 >>> (((2 : Int32) : Int32).toUInt32 &&& Int32.toUInt32 31)).toInt32 &&& (858993459 : Int32))) + (((((x0 - (((x0 : Int32).toUInt32 >>> (((1 : Int32) : Int32).toUInt32 &&& Int32.toUInt32 31)).toInt32 &&& (1431655765 : Int32))) &&& (858993459 : Int32)) + ((((x0 - (((x0 : Int32).toUInt32 >>> (((1 : Int32) : Int32).toUInt32 &&& Int32.toUInt32 31)).toInt32 &&& (1431655765 : Int32))) : Int32).toUInt32 >>> (((2 : Int32) : Int32).toUInt32 &&& Int32.toUInt32 31)).toInt32 &&& (858993459 : Int32))) : Int32).toUInt32 >>> (((4 : Int32) : Int32).toUInt32 &&& Int32.toUInt32 31)).toInt32) &&& (252645135 : Int32)) + (((((((x0 - (((x0 : Int32).toUInt32 >>> (((1 : Int32) : Int32).toUInt32 &&& Int32.toUInt32 31)).toInt32 &&& (1431655765 : Int32))) &&& (858993459 : Int32)) + ((((x0 - (((x0 : Int32).toUInt32 >>> (((1 : Int32) : Int32).toUInt32 &&& Int32.toUInt32 31)).toInt32 &&& (1431655765 : Int32))) : Int32).toUInt32 >>> (((2 : Int32) : Int32).toUInt32 &&& Int32.toUInt32 31)).toInt32 &&& (858993459 : Int32))) + (((((x0 - (((x0 : Int32).toUInt32 >>> (((1 : Int32) : Int32).toUInt32 &&& Int32.toUInt32 31)).toInt32 &&& (1431655765 : Int32))) &&& (858993459 : Int32)) + ((((x0 - (((x0 : Int32).toUInt32 >>> (((1 : Int32) : Int32).toUInt32 &&& Int32.toUInt32 31)).toInt32 &&& (1431655765 : Int32))) : Int32).toUInt32 >>> (((2 : Int32) : Int32).toUInt32 &&& Int32.toUInt32 31)).toInt32 &&& (858993459 : Int32))) : Int32).toUInt32 >>> (((4 : Int32) : Int32).toUInt32 &&& Int32.toUInt32 31)).toInt32) &&& (252645135 : Int32)) : Int32).toUInt32 >>> (((8 : Int32) : Int32).toUInt32 &&& Int32.toUInt32 31)).toInt32) + ((((((((x0 - (((x0 : Int32).toUInt32 >>> (((1 : Int32) : Int32).toUInt32 &&& Int32.toUInt32 31)).toInt32 &&& (1431655765 : Int32))) &&& (858993459 : Int32)) + ((((x0 - (((x0 : Int32).toUInt32 >>> (((1 : Int32) : Int32).toUInt32 &&& Int32.toUInt32 31)).toInt32 &&& (1431655765 : Int32))) : Int32).toUInt32 >>> (((2 : Int32) : Int32).toUInt32 &&& Int32.toUInt32 31)).toInt32 &&& (858993459 : Int32))) + (((((x0 - (((x0 : Int32).toUInt32 >>> (((1 : Int32) : Int32).toUInt32 &&& Int32.toUInt32 31)).toInt32 &&& (1431655765 : Int32))) &&& (858993459 : Int32)) + ((((x0 - (((x0 : Int32).toUInt32 >>> (((1 : Int32) : Int32).toUInt32 &&& Int32.toUInt32 31)).toInt32 &&& (1431655765 : Int32))) : Int32).toUInt32 >>> (((2 : Int32) : Int32).toUInt32 &&& Int32.toUInt32 31)).toInt32 &&& (858993459 : Int32))) : Int32).toUInt32 >>> (((4 : Int32) : Int32).toUInt32 &&& Int32.toUInt32 31)).toInt32) &&& (252645135 : Int32)) + (((((((x0 - (((x0 : Int32).toUInt32 >>> (((1 : Int32) : Int32).toUInt32 &&& Int32.toUInt32 31)).toInt32 &&& (1431655765 : Int32))) &&& (858993459 : Int32)) + ((((x0 - (((x0 : Int32).toUInt32 >>> (((1 : Int32) : Int32).toUInt32 &&& Int32.toUInt32 31)).toInt32 &&& (1431655765 : Int32))) : Int32).toUInt32 >>> (((2 : Int32) : Int32).toUInt32 &&& Int32.toUInt32 31)).toInt32 &&& (858993459 : Int32))) + (((((x0 - (((x0 : Int32).toUInt32 >>> (((1 : Int32) : Int32).toUInt32 &&& Int32.toUInt32 31)).toInt32 &&& (1431655765 : Int32))) &&& (858993459 : Int32)) + ((((x0 - (((x0 : Int32).toUInt32 >>> (((1 : Int32) : Int32).toUInt32 &&& Int32.toUInt32 31)).toInt32 &&& (1431655765 : Int32))) : Int32).toUInt32 >>> (((2 : Int32) : Int32).toUInt32 &&& Int32.toUInt32 31)).toInt32 &&& (858993459 : Int32))) : Int32).toUInt32 >>> (((4 : Int32) : Int32).toUInt32 &&& Int32.toUInt32 31)).toInt32) &&& (252645135 : Int32)) : Int32).toUInt32 >>> (((8 : Int32) : Int32).toUInt32 &&& Int32.toUInt32 31)).toInt32) : Int32).toUInt32 >>> (((16 : Int32) : Int32).toUInt32 &&& Int32.toUInt32 31)).toInt32) &&& (63 : Int32))
theorem u_bc {x : Int32} {σ : gT} {k : Int32 → gT → Prop} : wJ6_bitCount_0f7a4 x σ k ↔ k (gbc x) σ := Iff.rfl
theorem nI_and (a b : Nat) : nI a &&& nI b = nI (a &&& b) := by
  apply Int32.toBitVec_inj.mp
  show BitVec.ofNat 32 a &&& BitVec.ofNat 32 b = BitVec.ofNat 32 (a &&& b)
  rw [BitVec.ofNat_and]
theorem nI_or (a b : Nat) : nI a ||| nI b = nI (a ||| b) := by
  apply Int32.toBitVec_inj.mp
  show BitVec.ofNat 32 a ||| BitVec.ofNat 32 b = BitVec.ofNat 32 (a ||| b)
  rw [BitVec.ofNat_or]
-- bitCount by steps
def bs1 (x : Int32) : Int32 := x - ((x.toUInt32 >>> ((1 : Int32).toUInt32 &&& Int32.toUInt32 31)).toInt32 &&& (1431655765 : Int32))
def bs2 (x : Int32) : Int32 := (x &&& (858993459 : Int32)) + ((x.toUInt32 >>> ((2 : Int32).toUInt32 &&& Int32.toUInt32 31)).toInt32 &&& (858993459 : Int32))
def bs3 (x : Int32) : Int32 := (x + (x.toUInt32 >>> ((4 : Int32).toUInt32 &&& Int32.toUInt32 31)).toInt32) &&& (252645135 : Int32)
def bs4 (x : Int32) : Int32 := x + (x.toUInt32 >>> ((8 : Int32).toUInt32 &&& Int32.toUInt32 31)).toInt32
def bs5 (x : Int32) : Int32 := (x + (x.toUInt32 >>> ((16 : Int32).toUInt32 &&& Int32.toUInt32 31)).toInt32) &&& (63 : Int32)
theorem gbc_s (x : Int32) : gbc x = bs5 (bs4 (bs3 (bs2 (bs1 x)))) := rfl
def bc1 (m : Nat) : Nat := m - ((m / 2 ^ 1) &&& 1431655765)
def bc2 (m : Nat) : Nat := (m &&& 858993459) + ((m / 2 ^ 2) &&& 858993459)
def bc3 (m : Nat) : Nat := (m + (m / 2 ^ 4)) &&& 252645135
def bc4 (m : Nat) : Nat := m + (m / 2 ^ 8)
def bc5 (m : Nat) : Nat := (m + (m / 2 ^ 16)) &&& 63
def bcN (m : Nat) : Nat := bc5 (bc4 (bc3 (bc2 (bc1 m))))
def tbN (m : Nat) : Nat := gct (fun k => m.testBit k) 8
theorem bs1_n {n : Nat} (h : n < 2 ^ 30) : bs1 (nI n) = nI (bc1 n) := by
  unfold bs1 bc1
  rw [pk_ushrN (by omega) 1 1 (by decide), show (1431655765 : Int32) = nI 1431655765 from rfl, nI_and, pk_sub (Nat.le_trans Nat.and_le_left (Nat.div_le_self _ _))]
theorem bs2_n {n : Nat} (h : n < 2 ^ 30) : bs2 (nI n) = nI (bc2 n) := by
  unfold bs2 bc2
  rw [pk_ushrN (by omega) 2 2 (by decide), show (858993459 : Int32) = nI 858993459 from rfl, nI_and, nI_and, nI_add]
theorem bs3_n {n : Nat} (h : n < 2 ^ 30) : bs3 (nI n) = nI (bc3 n) := by
  unfold bs3 bc3
  rw [pk_ushrN (by omega) 4 4 (by decide), nI_add, show (252645135 : Int32) = nI 252645135 from rfl, nI_and]
theorem bs4_n {n : Nat} (h : n < 2 ^ 30) : bs4 (nI n) = nI (bc4 n) := by
  unfold bs4 bc4
  rw [pk_ushrN (by omega) 8 8 (by decide), nI_add]
theorem bs5_n {n : Nat} (h : n < 2 ^ 30) : bs5 (nI n) = nI (bc5 n) := by
  unfold bs5 bc5
  rw [pk_ushrN (by omega) 16 16 (by decide), nI_add, show (63 : Int32) = nI 63 from rfl, nI_and]
set_option maxHeartbeats 1000000 in
theorem gbc_n {m : Nat} (hm : m < 65536) : gbc (nI m) = nI (bcN m) := by
  have b1 : bc1 m < 65536 := by unfold bc1; omega
  have b2 : bc2 (bc1 m) < 2 ^ 18 := by
    unfold bc2
    have := @Nat.and_le_left (bc1 m) 858993459
    have := @Nat.and_le_left (bc1 m / 2 ^ 2) 858993459
    omega
  have b3 : bc3 (bc2 (bc1 m)) < 2 ^ 19 := by
    unfold bc3
    have := @Nat.and_le_left (bc2 (bc1 m) + (bc2 (bc1 m) / 2 ^ 4)) 252645135
    omega
  have b4 : bc4 (bc3 (bc2 (bc1 m))) < 2 ^ 20 := by unfold bc4; omega
  rw [gbc_s, bs1_n (by omega), bs2_n (by omega), bs3_n (by omega), bs4_n (by omega), bs5_n (by omega)]
  rfl
set_option maxRecDepth 100000 in
theorem bc_t : ((List.range 256).all fun h => (List.range 256).all fun l => Nat.beq (bcN (256 * h + l)) (tbN h + tbN l)) = true := by decide +kernel
theorem gct_add (p : Nat → Bool) (a : Nat) : ∀ b, gct p (a + b) = gct p a + gct (fun k => p (a + k)) b
  | 0 => rfl
  | b + 1 => by
    rw [← Nat.add_assoc, gct_s, gct_s, gct_add p a b]
    omega
theorem bcN_ct {m : Nat} (hm : m < 65536) : bcN m = gct (fun k => m.testBit k) 16 := by
  have e : m = 256 * (m / 256) + m % 256 := by omega
  have h1 := List.all_eq_true.mp (List.all_eq_true.mp bc_t (m / 256) (List.mem_range.mpr (by omega))) (m % 256) (List.mem_range.mpr (by omega))
  have h2 := Nat.eq_of_beq_eq_true h1
  rw [← e] at h2
  rw [h2, gct_add (fun k => m.testBit k) 8 8, Nat.add_comm]
  congr 1
  · refine gct_cong (fun j hj => ?_)
    rw [show m % 256 = m % 2 ^ 8 from rfl, Nat.testBit_mod_two_pow, decide_eq_true hj, Bool.true_and]
  · refine gct_cong (fun j hj => ?_)
    rw [show m / 256 = m / 2 ^ 8 from rfl, Nat.testBit_div_two_pow, Nat.add_comm]
theorem one_shl16 : ∀ j : Fin 16, (1 : Int32) <<< (nI j &&& (31 : Int32)) = nI (2 ^ (j : Nat)) := by decide +kernel
-- what a plate keeps
theorem gshw_ne (g : Int32) : ¬ gshw g = -1 := by
  unfold gshw
  split
  · decide
  · assumption
theorem gshw_255 (g : Int32) : gshw g = 255 ↔ g = 255 := by
  unfold gshw
  split
  · rename_i c
    rw [c]
    decide
  · exact Iff.rfl
theorem gpg_eq {σ τ : gT} (h3 : τ.1 3 = σ.1 3) (h17 : τ.1 17 = σ.1 17) : gpg τ = gpg σ := by
  funext p q
  unfold gpg
  rw [h3, h17]
theorem gLs_eq {σ τ : gT} {p : Nat} (h3 : τ.1 3 = σ.1 3) (h17 : τ.1 17 = σ.1 17) : gLs τ p ↔ gLs σ p := by
  unfold gLs
  rw [gpg_eq h3 h17, h3, h17]
theorem gpg_0 {σ : gT} {p q : Nat} (hq : q < 16) (h : σ.1 3 p 1 = 0) : gpg σ p q = σ.1 17 p q := by
  unfold gpg
  rw [h, if_neg]
  intro z
  have := (bit_ix (m := 0) (by decide) hq).mp z
  rw [Nat.zero_testBit] at this
  cases this
set_option maxHeartbeats 1000000 in
theorem gpg_m1 {σ : gT} {p q m : Nat} (hq : q < 16) (hm : m < 65536) (e : σ.1 3 p 1 = nI m) (hs : σ.1 17 p q = gshw (gpg σ p q)) : gpg σ p q = -1 ↔ m.testBit q = true := by
  by_cases c : m.testBit q = true
  · have : gpg σ p q = -1 := by
      unfold gpg
      rw [e]
      exact if_pos ((bit_ix (by omega) hq).mpr c)
    exact ⟨fun _ => c, fun _ => this⟩
  · have z : gpg σ p q = σ.1 17 p q := by
      unfold gpg
      rw [e]
      exact if_neg (fun y => c ((bit_ix (by omega) hq).mp y))
    exact ⟨fun y => absurd (hs.symm.trans (z.symm.trans y)) (gshw_ne _), fun y => absurd y c⟩
theorem gLs_ct {σ : gT} {p m : Nat} (hm : m < 65536) (e : σ.1 3 p 1 = nI m) (hs : ∀ q, q < 16 → σ.1 17 p q = gshw (gpg σ p q)) : gct (fun q => decide (gpg σ p q = -1)) 16 = gct (fun q => m.testBit q) 16 := by
  refine gct_cong (fun j hj => ?_)
  have := gpg_m1 hj hm e (hs j hj)
  by_cases c : m.testBit j = true
  · rw [decide_eq_true (this.mpr c), c]
  · rw [decide_eq_false (fun z => c (this.mp z))]
    exact (Bool.eq_false_iff.mpr c).symm
theorem bits0 {m : Nat} (hm : m < 65536) : gct (fun q => m.testBit q) 16 = 0 ↔ m = 0 := by
  constructor
  · intro h
    refine Nat.eq_of_testBit_eq (fun j => ?_)
    rw [Nat.zero_testBit]
    rcases Nat.lt_or_ge j 16 with y | y
    · exact gct_zero.mp h j y
    · exact Nat.testBit_lt_two_pow (Nat.lt_of_lt_of_le hm (Nat.pow_le_pow_right (n := 2) (by decide) y))
  · intro h
    subst h
    exact gct_zero.mpr (fun j _ => Nat.zero_testBit j)
theorem u_lost0 {σ : gT} {p : Nat} (h : gLs σ p) : σ.1 3 p 1 = 0 ↔ gct (fun q => decide (gpg σ p q = -1)) 16 = 0 := by
  obtain ⟨⟨m, hm, e⟩, hs⟩ := h
  rw [gLs_ct hm e hs, bits0 hm, e, show (0 : Int32) = nI 0 from rfl, nI_eq (by omega) (by decide)]
theorem u_lostOnes {σ : gT} {p : Nat} {k : Int32 → gT → Prop} (h : gLs σ p) (hk : k (nI (gct (fun q => decide (gpg σ p q = -1)) 16)) σ) : wX3_lostOnes p σ k := by
  obtain ⟨⟨m, hm, e⟩, hs⟩ := h
  unfold wX3_lostOnes
  refine u_bc.mpr ?_
  rw [gLs_ct hm e hs] at hk
  rw [e, gbc_n hm, bcN_ct hm]
  exact hk
set_option maxHeartbeats 1000000 in
theorem u_told {p j : Nat} {σ : gT} {k : Int32 → gT → Prop} (hj : j < 16) (hs : σ.1 17 p j = gshw (gpg σ p j)) (h : k (if gpg σ p j = -1 then -1000000 else gpg σ p j) σ) : wX3_told p (nI j) σ k := by
  unfold wX3_told
  rw [nI_clamp (show j < 2 ^ 31 by omega)]
  refine ⟨fun c => ⟨vp_in_nI hj (by decide), ?_⟩, fun c => ?_⟩
  · have e : gpg σ p j = σ.1 17 p j := by
      unfold gpg
      exact if_neg c
    have n : ¬ gpg σ p j = -1 := fun y => gshw_ne _ (hs.symm.trans (e.symm.trans y))
    rw [if_neg n, e] at h
    exact h
  · have e : gpg σ p j = -1 := by
      unfold gpg
      exact if_pos c
    rw [if_pos e] at h
    exact h
set_option maxHeartbeats 1000000 in
/-- a grain is lost -/
theorem gRp_lose {σ τ : gT} {w j : Nat} (h : gRp σ) (hj : j < 16) (h36 : ∀ s, τ.1 36 0 s = σ.1 36 0 s) (h32 : ∀ s, τ.1 3 s 2 = σ.1 3 s 2) (h31 : ∀ s, τ.1 3 s 1 = if s = w then (σ.1 3 w 1 ||| ((1 : Int32) <<< (nI j &&& (31 : Int32)))) else σ.1 3 s 1) (h17 : ∀ s q, τ.1 17 s q = if s = w ∧ q = j then 0 else σ.1 17 s q) (h37 : ∀ s q, q < 16 → τ.1 37 0 (16 * s + q) = if s = w ∧ q = j then -1 else σ.1 37 0 (16 * s + q)) : gRp τ := by
  intro s hs
  obtain ⟨q1, q2, q3, ⟨m, hm, q4⟩, q5⟩ := h s hs
  by_cases e : s = w
  · subst e
    have x1 : τ.1 3 s 1 = nI (m ||| 2 ^ j) := by rw [h31, if_pos rfl, q4, one_shl16 ⟨j, hj⟩, nI_or]
    have hm2 : m ||| 2 ^ j < 65536 := Nat.or_lt_two_pow (n := 16) hm (Nat.pow_lt_pow_right (by decide) hj)
    have g : ∀ q, q < 16 → gpg τ s q = if q = j then -1 else gpg σ s q := by
      intro q hq
      unfold gpg
      rw [x1, q4, h17]
      by_cases c : q = j
      · subst c
        rw [if_pos rfl, if_pos ((bit_ix (by omega) hq).mpr (by rw [Nat.testBit_or, Nat.testBit_two_pow_self, Bool.or_true]))]
      · rw [if_neg c, if_neg (show ¬ (s = s ∧ q = j) from fun z => c z.2)]
        have t : (m ||| 2 ^ j).testBit q = m.testBit q := by rw [Nat.testBit_or, Nat.testBit_two_pow_of_ne (fun z => c z.symm), Bool.or_false]
        by_cases b : m.testBit q = true
        · rw [if_pos ((bit_ix (by omega) hq).mpr (t.trans b)), if_pos ((bit_ix (by omega) hq).mpr b)]
        · rw [if_neg (fun z => b (t.symm.trans ((bit_ix (by omega) hq).mp z))), if_neg (fun z => b ((bit_ix (by omega) hq).mp z))]
    refine ⟨by rw [h36, h32]; exact q1, by rw [h32]; exact q2, fun q hq => ?_, ⟨_, hm2, x1⟩, fun q hq => ?_⟩
    · rw [h37 s q hq, g q hq]
      by_cases c : q = j
      · rw [if_pos c, if_pos ⟨rfl, c⟩]; exact ⟨rfl, Or.inl rfl⟩
      · rw [if_neg c, if_neg (fun z => c z.2)]; exact q3 q hq
    · rw [h17, g q hq]
      by_cases c : q = j
      · rw [if_pos c, if_pos ⟨rfl, c⟩]; decide
      · rw [if_neg c, if_neg (fun z => c z.2)]; exact q5 q hq
  · have g : gpg τ s = gpg σ s := by
      funext q
      unfold gpg
      rw [h31, if_neg e, h17, if_neg (show ¬ (s = w ∧ q = j) from fun z => e z.1)]
    refine ⟨by rw [h36, h32]; exact q1, by rw [h32]; exact q2, fun q hq => ?_, ⟨m, hm, by rw [h31, if_neg e]; exact q4⟩, fun q hq => ?_⟩
    · rw [h37 s q hq, g, if_neg (fun z => e z.1)]; exact q3 q hq
    · rw [h17, g, if_neg (fun z => e z.1)]; exact q5 q hq
