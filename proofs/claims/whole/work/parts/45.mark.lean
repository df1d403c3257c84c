/-! PURE: mark -/
theorem gR_fr {σ τ : gT} (hf : ∀ a, a ≠ 4 → a ≠ 14 → a ≠ 15 → a ≠ 16 → a ≠ 18 → τ.1 a = σ.1 a) (h : gR σ) : gR τ := by
  have e : ∀ a b c, a ≠ 4 → a ≠ 14 → a ≠ 15 → a ≠ 16 → a ≠ 18 → τ.1 a b c = σ.1 a b c := fun a b c h1 h2 h3 h4 h5 => by rw [hf a h1 h2 h3 h4 h5]
  refine ⟨(gRs_cong (fun a b c ha => e a b c (by omega) (by omega) (by omega) (by omega) (by omega))).mpr h.1, (gRw_cong (fun a b c ha => e a b c (by omega) (by omega) (by omega) (by omega) (by omega))).mpr h.2.1, (gRp_cong (fun a b c ha => e a b c (by omega) (by omega) (by omega) (by omega) (by omega))).mpr h.2.2.1, (gRt_cong (fun a b c ha => e a b c (by omega) (by omega) (by omega) (by omega) (by omega))).mpr h.2.2.2.1, (gRa_cong (fun a b c ha => e a b c (by omega) (by omega) (by omega) (by omega) (by omega))).mpr h.2.2.2.2.1, ?_, ?_⟩
  · unfold gRf
    rw [e 10 0 11 (by decide) (by decide) (by decide) (by decide) (by decide), e 9 0 9 (by decide) (by decide) (by decide) (by decide) (by decide)]
    exact h.2.2.2.2.2.1
  · unfold gRz
    rw [e 10 0 1 (by decide) (by decide) (by decide) (by decide) (by decide), e 9 0 10 (by decide) (by decide) (by decide) (by decide) (by decide)]
    exact h.2.2.2.2.2.2
-- sums over a row, and over all subsets
def gSr (f : Nat → Nat) : Nat → Nat
  | 0 => 0
  | n + 1 => gSr f n + f n
theorem gSr_s (f : Nat → Nat) (n : Nat) : gSr f (n + 1) = gSr f n + f n := rfl
theorem gSr_cong {f g : Nat → Nat} : ∀ {n : Nat}, (∀ j, j < n → f j = g j) → gSr f n = gSr g n
  | 0, _ => rfl
  | n + 1, h => by rw [gSr_s, gSr_s, gSr_cong (fun j hj => h j (by omega)), h n (by omega)]
theorem gSr_app (f : Nat → Nat) (a : Nat) : ∀ b, gSr f (a + b) = gSr f a + gSr (fun i => f (a + i)) b
  | 0 => rfl
  | b + 1 => by
    rw [← Nat.add_assoc, gSr_s, gSr_s, gSr_app f a b]
    omega
def gSm (g : Nat → Nat) : Nat → (Nat → Nat) → Nat
  | 0, F => F 0
  | k + 1, F => gSm g k F + gSm g k (fun x => F (x + g k))
theorem gSm_s (g : Nat → Nat) (k : Nat) (F : Nat → Nat) : gSm g (k + 1) F = gSm g k F + gSm g k (fun x => F (x + g k)) := rfl
theorem gSm_add (g : Nat → Nat) : ∀ (k : Nat) (F H : Nat → Nat), gSm g k (fun x => F x + H x) = gSm g k F + gSm g k H
  | 0, F, H => rfl
  | k + 1, F, H => by
    rw [gSm_s, gSm_s, gSm_s, gSm_add g k F H, gSm_add g k (fun x => F (x + g k)) (fun x => H (x + g k))]
    omega
theorem gSm_split (g : Nat → Nat) (a : Nat) : ∀ (k : Nat) (F : Nat → Nat), gSm g (a + k) F = gSm g a (fun x => gSm (fun i => g (a + i)) k (fun y => F (x + y)))
  | 0, F => rfl
  | k + 1, F => by
    rw [← Nat.add_assoc, gSm_s, gSm_split g a k F, gSm_split g a k (fun x => F (x + g (a + k))), ← gSm_add]
    refine congrArg (gSm g a) (funext fun x => ?_)
    rw [gSm_s]
    refine congrArg (fun z => gSm (fun i => g (a + i)) k (fun y => F (x + y)) + gSm (fun i => g (a + i)) k z) (funext fun y => ?_)
    rw [Nat.add_assoc]
def gwm (G : Nat → Nat) (m : Nat) : Nat → Nat
  | 0 => 0
  | n + 1 => gwm G m n + (if m.testBit n = true then G n else 0)
theorem gwm_s (G : Nat → Nat) (m n : Nat) : gwm G m (n + 1) = gwm G m n + (if m.testBit n = true then G n else 0) := rfl
theorem gwm_cong {G : Nat → Nat} {m m' : Nat} : ∀ {n : Nat}, (∀ j, j < n → m.testBit j = m'.testBit j) → gwm G m n = gwm G m' n
  | 0, _ => rfl
  | n + 1, h => by rw [gwm_s, gwm_s, gwm_cong (fun j hj => h j (by omega)), h n (by omega)]
set_option maxHeartbeats 1000000 in
theorem gSm_row (G F : Nat → Nat) : ∀ k, gSm G k F = gSr (fun m => F (gwm G m k)) (2 ^ k) := by
  intro k
  induction k generalizing F with
  | zero =>
    show F 0 = 0 + F 0
    omega
  | succ k ih =>
    rw [gSm_s, ih F, ih (fun x => F (x + G k)), Nat.pow_succ, Nat.mul_two, gSr_app]
    congr 1
    · refine gSr_cong (fun j hj => ?_)
      rw [gwm_s, Nat.testBit_lt_two_pow hj]
      rfl
    · refine gSr_cong (fun j hj => ?_)
      rw [gwm_s, Nat.testBit_two_pow_add_eq, Nat.testBit_lt_two_pow hj, gwm_cong (fun i hi => Nat.testBit_two_pow_add_gt hi j)]
      rfl
theorem gct_row (p : Nat → Bool) : ∀ n, gct p n = gSr (fun m => if p m = true then 1 else 0) n
  | 0 => rfl
  | n + 1 => by rw [gct_s, gSr_s, gct_row p n]
def gwa (G : Nat → Nat) : Nat → Nat
  | 0 => 0
  | n + 1 => gwa G n + G n
theorem gwa_s (G : Nat → Nat) (n : Nat) : gwa G (n + 1) = gwa G n + G n := rfl
theorem gwm_bd {G : Nat → Nat} {m : Nat} (h : ∀ q, q < 16 → G q ≤ 255) : ∀ n, n ≤ 16 → gwm G m n ≤ gwa G n ∧ gwa G n ≤ 255 * n
  | 0, _ => ⟨Nat.le_refl 0, Nat.le_refl 0⟩
  | n + 1, hn => by
    have ih := gwm_bd (m := m) h n (by omega)
    have := h n (by omega)
    rw [gwm_s, gwa_s]
    split <;> omega
-- the class's sums
set_option maxHeartbeats 1000000 in
theorem gtw_n {g : Nat → Int32} {G : Nat → Nat} {m : Nat} (hG : ∀ q, q < 16 → gshw (g q) = nI (G q)) (hm : m < 2 ^ 31) : gtw (nI m) g = nI (gwm G m 16) := by
  have key : ∀ n, n ≤ 16 → gs32 (fun q => if ((nI m >>> (nI q &&& 31)) &&& 1) = 1 then gshw (g q) else 0) n = nI (gwm G m n) := by
    intro n
    induction n with
    | zero => intro _; rfl
    | succ n ih =>
      intro hn
      show gs32 (fun q => if ((nI m >>> (nI q &&& 31)) &&& 1) = 1 then gshw (g q) else 0) n + (if ((nI m >>> (nI n &&& 31)) &&& 1) = 1 then gshw (g n) else 0) = _
      rw [ih (by omega), gwm_s, hG n (by omega)]
      by_cases c : m.testBit n = true
      · rw [if_pos ((bit_ix hm (by omega)).mpr c), if_pos c, nI_add]
      · rw [if_neg (fun z => c ((bit_ix hm (by omega)).mp z)), if_neg c, nI_0r]
        rfl
  exact key 16 (by decide)
theorem gto_n {g : Nat → Int32} {G : Nat → Nat} (hG : ∀ q, q < 16 → gshw (g q) = nI (G q)) : gto g = nI (gwa G 16) := by
  have key : ∀ n, n ≤ 16 → gs32 (fun q => gshw (g q)) n = nI (gwa G n) := by
    intro n
    induction n with
    | zero => intro _; rfl
    | succ n ih =>
      intro hn
      show gs32 (fun q => gshw (g q)) n + gshw (g n) = _
      rw [ih (by omega), hG n (by omega), nI_add, gwa_s]
  exact key 16 (by decide)
-- the model's sums
theorem iI_neg (a : Int) : iI (-a) = -(iI a) := Int32.ofInt_neg a
theorem iI_sub (a b : Int) : iI (a - b) = iI a - iI b := Int32.ofInt_sub a b
theorem iI_lt {a b : Int} (h1 : -1000000 ≤ a ∧ a ≤ 1000000) (h2 : -1000000 ≤ b ∧ b ≤ 1000000) : iI a < iI b ↔ a < b := by
  unfold iI
  rw [fa_lt, Int32.toInt_ofInt_of_le (by omega) (by omega), Int32.toInt_ofInt_of_le (by omega) (by omega)]
set_option maxHeartbeats 1000000 in
theorem v_sumOf {p m : Nat} {g : Nat → Int32} {G : Nat → Nat} {σ : gT} {k : Int32 → gT → Prop} (hp : p < 6) (hm : m < 2 ^ 31) (hg : ∀ q, q < 16 → σ.1 37 0 (16 * p + q) = g q) (hG : ∀ q, q < 16 → gshw (g q) = nI (G q)) (h : k (iI (2 * (gwm G m 16 : Int) - (gwa G 16 : Int))) σ) : wX10_sumOf (nI p) (nI m) σ k := by
  unfold wX10_sumOf
  obtain ⟨n, key⟩ := gloop (N := 16) (fun t j => wX10_sumOf_5 k t (nI p) (nI m) (iI (2 * (gwm G m j : Int) - (gwa G j : Int))) (nI j) σ) (by
    unfold wX10_sumOf_5
    exact ⟨fun _ => h, fun z => absurd (by decide) z⟩) (by
    intro n j hj hn
    unfold wX10_sumOf_5 wX10_sumOf_55
    rw [ix16, nI_clamp (show 16 * p + j < 2 ^ 31 by omega), hg j hj, nI_1, bit_ix hm hj]
    have hGj := hG j hj
    unfold gshw at hGj
    refine ⟨fun z => absurd z (nI_ge (b := 16) hj (by decide)), fun _ => ⟨vp_in_nI (by omega) (by decide), fun c => ?_, fun c => ?_⟩⟩
    · rw [if_neg c] at hGj
      rw [hGj, ← iI_nat (G j)]
      refine ⟨fun c2 => ?_, fun c2 => ?_⟩
      · rw [← iI_neg, ← iI_add]
        rw [gwm_s, gwa_s, if_neg c2] at hn
        rw [show 2 * (gwm G m j : Int) - (gwa G j : Int) + -(G j : Int) = 2 * ((gwm G m j + 0 : Nat) : Int) - ((gwa G j + G j : Nat) : Int) by omega]
        exact hn
      · rw [← iI_add]
        rw [gwm_s, gwa_s, if_pos c2] at hn
        rw [show 2 * (gwm G m j : Int) - (gwa G j : Int) + (G j : Int) = 2 * ((gwm G m j + G j : Nat) : Int) - ((gwa G j + G j : Nat) : Int) by omega]
        exact hn
    · rw [if_pos c] at hGj
      rw [Int32.add_zero]
      by_cases c2 : m.testBit j = true
      · rw [gwm_s, gwa_s, if_pos c2] at hn
        have e : iI (2 * ((gwm G m j + G j : Nat) : Int) - ((gwa G j + G j : Nat) : Int)) = iI (2 * (gwm G m j : Int) - (gwa G j : Int)) := by
          rw [show 2 * ((gwm G m j + G j : Nat) : Int) - ((gwa G j + G j : Nat) : Int) = 2 * (gwm G m j : Int) - (gwa G j : Int) + (G j : Int) by omega, iI_add, iI_nat, ← hGj, Int32.add_zero]
        rw [e] at hn
        exact hn
      · rw [gwm_s, gwa_s, if_neg c2] at hn
        have e : iI (2 * ((gwm G m j + 0 : Nat) : Int) - ((gwa G j + G j : Nat) : Int)) = iI (2 * (gwm G m j : Int) - (gwa G j : Int)) := by
          rw [show 2 * ((gwm G m j + 0 : Nat) : Int) - ((gwa G j + G j : Nat) : Int) = 2 * (gwm G m j : Int) - (gwa G j : Int) - (G j : Int) by omega, iI_sub, iI_nat, ← hGj, Int32.sub_zero]
        rw [e] at hn
        exact hn)
  have key : wX10_sumOf_5 k n (nI p) (nI m) (iI 0) (nI 0) σ := key
  rw [iI_0, nI_0] at key
  exact ⟨n, key⟩
-- the merge of two rising rows
def gup (N : Nat → Nat) (k v : Nat) : Nat → Nat := fun i => if i = k then v else N i
theorem gup_e {N : Nat → Nat} {k v : Nat} : gup N k v k = v := if_pos rfl
theorem gup_n {N : Nat → Nat} {k v i : Nat} (h : i ≠ k) : gup N k v i = N i := if_neg h
def gMI (n L B : Nat) (S N : Nat → Nat) (a b : Nat) : Prop := b ≤ a ∧ a ≤ n ∧ (∀ i, i < a + b → N i ≤ B + L) ∧ (∀ i j, i ≤ j → j < a + b → N i ≤ N j) ∧ (∀ i, i < a + b → (a < n → N i ≤ S a) ∧ (b < n → N i ≤ S b + L)) ∧ ∀ F : Nat → Nat, gSr (fun i => F (N i)) (a + b) = gSr (fun i => F (S i)) a + gSr (fun i => F (S i + L)) b
theorem gMI_sum {N S : Nat → Nat} {v m : Nat} {F : Nat → Nat} : gSr (fun i => F (gup N m v i)) (m + 1) = gSr (fun i => F (N i)) m + F v := by
  rw [gSr_s, gup_e]
  congr 1
  exact gSr_cong (fun j hj => by rw [gup_n (by omega)])
set_option maxHeartbeats 1000000 in
theorem gMI_p {n L B : Nat} {S N : Nat → Nat} {a b : Nat} (hs : ∀ i j, i ≤ j → j < n → S i ≤ S j) (hB : ∀ i, i < n → S i ≤ B) (h : gMI n L B S N a b) (ha : a < n) (hv : S a ≤ S b + L) : gMI n L B S (gup N (a + b) (S a)) (a + 1) b := by
  obtain ⟨h1, h2, h3, h4, h5, h6⟩ := h
  have e : a + 1 + b = a + b + 1 := by omega
  refine ⟨by omega, by omega, fun i hi => ?_, fun i j hij hj => ?_, fun i hi => ⟨fun c => ?_, fun c => ?_⟩, fun F => ?_⟩
  · by_cases z : i = a + b
    · rw [z, gup_e]; have := hB a ha; omega
    · rw [gup_n z]; exact h3 i (by omega)
  · by_cases z : j = a + b
    · rw [z, gup_e]
      by_cases y : i = a + b
      · rw [y, gup_e]; exact Nat.le_refl _
      · rw [gup_n y]; exact (h5 i (by omega)).1 ha
    · rw [gup_n z, gup_n (by omega)]; exact h4 i j hij (by omega)
  · by_cases z : i = a + b
    · rw [z, gup_e]; exact hs _ _ (by omega) c
    · rw [gup_n z]; exact Nat.le_trans ((h5 i (by omega)).1 ha) (hs _ _ (by omega) c)
  · by_cases z : i = a + b
    · rw [z, gup_e]; exact hv
    · rw [gup_n z]; exact (h5 i (by omega)).2 c
  · rw [e, gMI_sum (S := S), h6 F, gSr_s]
    omega
set_option maxHeartbeats 1000000 in
theorem gMI_l {n L B : Nat} {S N : Nat → Nat} {a b : Nat} (hs : ∀ i j, i ≤ j → j < n → S i ≤ S j) (hB : ∀ i, i < n → S i ≤ B) (h : gMI n L B S N a b) (hb : b < n) (hv : a < n → S b + L < S a) : gMI n L B S (gup N (a + b) (S b + L)) a (b + 1) := by
  obtain ⟨h1, h2, h3, h4, h5, h6⟩ := h
  have e : a + (b + 1) = a + b + 1 := by omega
  have hba : b < a := by
    rcases Nat.lt_or_ge b a with z | z
    · exact z
    · have y : a = b := by omega
      subst y
      have := hv hb
      omega
  refine ⟨by omega, by omega, fun i hi => ?_, fun i j hij hj => ?_, fun i hi => ⟨fun c => ?_, fun c => ?_⟩, fun F => ?_⟩
  · by_cases z : i = a + b
    · rw [z, gup_e]; have := hB b hb; omega
    · rw [gup_n z]; exact h3 i (by omega)
  · by_cases z : j = a + b
    · rw [z, gup_e]
      by_cases y : i = a + b
      · rw [y, gup_e]; exact Nat.le_refl _
      · rw [gup_n y]; exact (h5 i (by omega)).2 hb
    · rw [gup_n z, gup_n (by omega)]; exact h4 i j hij (by omega)
  · by_cases z : i = a + b
    · rw [z, gup_e]; exact Nat.le_of_lt (hv c)
    · rw [gup_n z]; exact (h5 i (by omega)).1 c
  · by_cases z : i = a + b
    · rw [z, gup_e]; have := hs b (b + 1) (by omega) c; omega
    · rw [gup_n z]; have := (h5 i (by omega)).2 hb; have := hs b (b + 1) (by omega) c; omega
  · rw [e, gMI_sum (S := S), h6 F, gSr_s]
    omega
theorem gsu_fam {σ : gT} {f i j a : Nat} {x : Int32} (h : a ≠ f) : (gsu σ f i j x).1 a = σ.1 a := by
  funext b c
  exact gsu_f h
theorem one_shl : ∀ j : Fin 8, (1 : Int32) <<< (nI j &&& (31 : Int32)) = nI (2 ^ (j : Nat)) := by decide +kernel
set_option maxHeartbeats 1000000 in
theorem u_merge_f14 {n L B : Nat} {S : Nat → Nat} {σ : gT} {k : gT → Prop} (hn : n ≤ 128) (hBL : B + L < 2 ^ 30) (hS : ∀ i, i < n → σ.1 14 0 i = nI (S i)) (hs : ∀ i j, i ≤ j → j < n → S i ≤ S j) (hB : ∀ i, i < n → S i ≤ B)
    (h : ∀ (τ : gT) (N : Nat → Nat), (∀ a, a ≠ 14 → a ≠ 16 → τ.1 a = σ.1 a) → (∀ i, i < 2 * n → τ.1 14 0 i = nI (N i)) → (∀ i, i < 2 * n → N i ≤ B + L) → (∀ i j, i ≤ j → j < 2 * n → N i ≤ N j) → (∀ F : Nat → Nat, gSr (fun i => F (N i)) (2 * n) = gSr (fun i => F (S i)) n + gSr (fun i => F (S i + L)) n) → k τ) : wX2_merge_f14 (nI n) (nI L) σ k := by
  unfold wX2_merge_f14
  have c0 : (0 : Int32).toNatClampNeg = 0 := by decide
  rw [c0, nI_clamp (show n < 2 ^ 31 by omega)]
  refine ⟨by decide, by decide, nI_pos (by omega), by omega, by omega, ?_⟩
  have key := gloop (N := 2 * n) (fun t m => ∀ (a b : Nat) (N : Nat → Nat) (ρ : gT), a + b = m → gMI n L B S N a b → (∀ x, x ≠ 14 → x ≠ 16 → ρ.1 x = σ.1 x) → (∀ i, i < n → ρ.1 16 0 i = nI (S i)) → (∀ i, i < m → ρ.1 14 0 i = nI (N i)) → wX2_merge_f14_20 k t (nI n) (nI L) (nI a) (nI b) (nI m) ρ) (by
    intro a b N ρ hab hI hf h16 hN
    unfold wX2_merge_f14_20
    rw [show (2 : Int32) * nI n = nI (2 * n) from pk_mul 2 n]
    refine ⟨fun _ => ?_, fun z => absurd (nI_le (Nat.le_refl _) (by omega)) z⟩
    obtain ⟨h1, h2, h3, h4, h5, h6⟩ := hI
    have ha : a = n := by omega
    have hb : b = n := by omega
    subst ha
    rw [hb] at h3 h4 h6
    rw [show 2 * a = a + a by omega] at hN h
    exact h ρ N hf (fun i hi => hN i (by omega)) h3 h4 h6) (by
    intro t m hm ih a b N ρ hab hI hf h16 hN
    obtain ⟨h1, h2, h3, h4, h5, h6⟩ := id hI
    have hb : b < n := by omega
    have vb : vp_in (nI b) 256 := vp_in_nI (by omega) (by decide)
    have vm : vp_in (nI m) 256 := vp_in_nI (by omega) (by decide)
    unfold wX2_merge_f14_20 wX2_merge_f14_70 wX2_merge_f14_86
    rw [show (2 : Int32) * nI n = nI (2 * n) from pk_mul 2 n, nI_1 a, nI_1 b, nI_1 m, nI_clamp (show a < 2 ^ 31 by omega), nI_clamp (show b < 2 ^ 31 by omega), nI_clamp (show m < 2 ^ 31 by omega), h16 b hb, nI_add]
    have lift : (a < n → S b + L < S a) → wX2_merge_f14_20 k t (nI n) (nI L) (nI a) (nI (b + 1)) (nI (m + 1)) (gsu ρ 14 0 m (nI (S b + L))) := fun hv => by
      subst hab
      refine ih a (b + 1) (gup N (a + b) (S b + L)) _ (by omega) (gMI_l hs hB hI hb hv) (fun x x1 x2 => by rw [gsu_fam x1]; exact hf x x1 x2) (fun i hi => by rw [gsu_f (by decide)]; exact h16 i hi) (fun i hi => ?_)
      by_cases z : i = a + b
      · rw [z, gsu_e, gup_e]
      · rw [gsu_s z, gup_n z]; exact hN i (by omega)
    refine ⟨fun z => absurd z (nI_ge hm (by omega)), fun _ => ⟨fun c => ⟨vb, vm, lift (fun z => ?_)⟩, fun c => ?_⟩⟩
    · rw [nI_leI (by omega) (by omega)] at c; omega
    · have ha : a < n := by rw [nI_leI (by omega) (by omega)] at c; omega
      have va : vp_in (nI a) 256 := vp_in_nI (by omega) (by decide)
      have b1 := hB a ha
      have b2 := hB b hb
      rw [h16 a ha, nI_ltI (by omega) (by omega)]
      refine ⟨va, vb, fun c2 => ⟨vb, vm, lift (fun _ => c2)⟩, fun c2 => ⟨va, vm, ?_⟩⟩
      subst hab
      refine ih (a + 1) b (gup N (a + b) (S a)) _ (by omega) (gMI_p hs hB hI ha (by omega)) (fun x x1 x2 => by rw [gsu_fam x1]; exact hf x x1 x2) (fun i hi => by rw [gsu_f (by decide)]; exact h16 i hi) (fun i hi => ?_)
      by_cases z : i = a + b
      · rw [z, gsu_e, gup_e]
      · rw [gsu_s z, gup_n z]; exact hN i (by omega))
  obtain ⟨t, key⟩ := key
  refine ⟨t, key 0 0 (fun _ => 0) _ rfl ⟨Nat.le_refl 0, Nat.zero_le n, fun i hi => absurd hi (Nat.not_lt_zero i), fun i j _ hj => absurd hj (Nat.not_lt_zero j), fun i hi => absurd hi (Nat.not_lt_zero i), fun F => rfl⟩ (fun x x1 x2 => ?_) (fun i hi => ?_) (fun i hi => absurd hi (Nat.not_lt_zero i))⟩
  · funext b c
    exact gsc_f x2
  · rw [gsc_y ⟨Nat.zero_le i, by omega⟩, show 0 + (i - 0) = i by omega]
    exact hS i hi
set_option maxHeartbeats 1000000 in
theorem u_sumUp_f14 {p o : Nat} {G : Nat → Nat} {σ : gT} {k : gT → Prop} (ho : o + 8 ≤ 16) (hG : ∀ q, q < 16 → σ.1 17 p q = nI (G q)) (hb : ∀ q, q < 16 → G q ≤ 255)
    (h : ∀ (τ : gT) (N : Nat → Nat), (∀ a, a ≠ 14 → a ≠ 16 → τ.1 a = σ.1 a) → (∀ i, i < 256 → τ.1 14 0 i = nI (N i)) → (∀ i, i < 256 → N i ≤ 2040) → (∀ i j, i ≤ j → j < 256 → N i ≤ N j) → (∀ F : Nat → Nat, gSr (fun i => F (N i)) 256 = gSm (fun i => G (o + i)) 8 F) → k τ) : wX2_sumUp_f14 p (nI o) σ k := by
  unfold wX2_sumUp_f14
  refine ⟨show vp_in (nI 0) 256 from vp_in_nI (by decide) (by decide), ?_⟩
  have key := gloop (N := 8) (fun t j => ∀ (ρ : gT) (N : Nat → Nat), (∀ a, a ≠ 14 → a ≠ 16 → ρ.1 a = σ.1 a) → (∀ i, i < 2 ^ j → ρ.1 14 0 i = nI (N i)) → (∀ i, i < 2 ^ j → N i ≤ 255 * j) → (∀ i i2, i ≤ i2 → i2 < 2 ^ j → N i ≤ N i2) → (∀ F : Nat → Nat, gSr (fun i => F (N i)) (2 ^ j) = gSm (fun i => G (o + i)) j F) → wX2_sumUp_f14_7 k t p (nI o) (nI j) ρ) (by
    intro ρ N hf hN hB hs hF
    unfold wX2_sumUp_f14_7
    exact ⟨fun _ => h ρ N hf hN hB hs hF, fun z => absurd (by decide) z⟩) (by
    intro t j hj ih ρ N hf hN hB hs hF
    unfold wX2_sumUp_f14_7
    have e17 : ρ.1 17 = σ.1 17 := hf 17 (by decide) (by decide)
    have hp2 : 2 ^ j ≤ 128 := Nat.pow_le_pow_right (n := 2) (by decide) (show j ≤ 7 by omega)
    rw [nI_add, nI_1, one_shl ⟨j, hj⟩, nI_clamp (show o + j < 2 ^ 31 by omega), e17, hG (o + j) (by omega)]
    refine ⟨fun z => absurd z (nI_ge (b := 8) hj (by decide)), fun _ => ⟨vp_in_nI (by omega) (by decide), ?_⟩⟩
    have hbj := hb (o + j) (by omega)
    refine u_merge_f14 (B := 255 * j) hp2 (by omega) hN hs hB (fun τ N2 k1 k2 k3 k4 k5 => ?_)
    have e2 : 2 * 2 ^ j = 2 ^ (j + 1) := by rw [Nat.pow_succ]; omega
    rw [e2] at k2 k3 k4 k5
    refine ih τ N2 (fun a a1 a2 => (k1 a a1 a2).trans (hf a a1 a2)) k2 (fun i hi => ?_) k4 (fun F => ?_)
    · have := k3 i hi; omega
    · rw [k5 F, hF F, gSm_s, hF (fun x => F (x + G (o + j)))])
  obtain ⟨t, key⟩ := key
  refine ⟨t, key _ (fun _ => 0) (fun a a1 a2 => gsu_fam a1) (fun i hi => ?_) (fun i _ => Nat.zero_le _) (fun _ _ _ _ => Nat.le_refl 0) (fun F => ?_)⟩
  · have : i = 0 := by have : (2 : Nat) ^ 0 = 1 := rfl
                       omega
    subst this
    exact gsu_e
  · show 0 + F 0 = F 0
    omega
set_option maxHeartbeats 1000000 in
theorem u_merge_f15 {n L B : Nat} {S : Nat → Nat} {σ : gT} {k : gT → Prop} (hn : n ≤ 128) (hBL : B + L < 2 ^ 30) (hS : ∀ i, i < n → σ.1 15 0 i = nI (S i)) (hs : ∀ i j, i ≤ j → j < n → S i ≤ S j) (hB : ∀ i, i < n → S i ≤ B)
    (h : ∀ (τ : gT) (N : Nat → Nat), (∀ a, a ≠ 15 → a ≠ 16 → τ.1 a = σ.1 a) → (∀ i, i < 2 * n → τ.1 15 0 i = nI (N i)) → (∀ i, i < 2 * n → N i ≤ B + L) → (∀ i j, i ≤ j → j < 2 * n → N i ≤ N j) → (∀ F : Nat → Nat, gSr (fun i => F (N i)) (2 * n) = gSr (fun i => F (S i)) n + gSr (fun i => F (S i + L)) n) → k τ) : wX2_merge_f15 (nI n) (nI L) σ k := by
  unfold wX2_merge_f15
  have c0 : (0 : Int32).toNatClampNeg = 0 := by decide
  rw [c0, nI_clamp (show n < 2 ^ 31 by omega)]
  refine ⟨by decide, by decide, nI_pos (by omega), by omega, by omega, ?_⟩
  have key := gloop (N := 2 * n) (fun t m => ∀ (a b : Nat) (N : Nat → Nat) (ρ : gT), a + b = m → gMI n L B S N a b → (∀ x, x ≠ 15 → x ≠ 16 → ρ.1 x = σ.1 x) → (∀ i, i < n → ρ.1 16 0 i = nI (S i)) → (∀ i, i < m → ρ.1 15 0 i = nI (N i)) → wX2_merge_f15_20 k t (nI n) (nI L) (nI a) (nI b) (nI m) ρ) (by
    intro a b N ρ hab hI hf h16 hN
    unfold wX2_merge_f15_20
    rw [show (2 : Int32) * nI n = nI (2 * n) from pk_mul 2 n]
    refine ⟨fun _ => ?_, fun z => absurd (nI_le (Nat.le_refl _) (by omega)) z⟩
    obtain ⟨h1, h2, h3, h4, h5, h6⟩ := hI
    have ha : a = n := by omega
    have hb : b = n := by omega
    subst ha
    rw [hb] at h3 h4 h6
    rw [show 2 * a = a + a by omega] at hN h
    exact h ρ N hf (fun i hi => hN i (by omega)) h3 h4 h6) (by
    intro t m hm ih a b N ρ hab hI hf h16 hN
    obtain ⟨h1, h2, h3, h4, h5, h6⟩ := id hI
    have hb : b < n := by omega
    have vb : vp_in (nI b) 256 := vp_in_nI (by omega) (by decide)
    have vm : vp_in (nI m) 256 := vp_in_nI (by omega) (by decide)
    unfold wX2_merge_f15_20 wX2_merge_f15_70 wX2_merge_f15_86
    rw [show (2 : Int32) * nI n = nI (2 * n) from pk_mul 2 n, nI_1 a, nI_1 b, nI_1 m, nI_clamp (show a < 2 ^ 31 by omega), nI_clamp (show b < 2 ^ 31 by omega), nI_clamp (show m < 2 ^ 31 by omega), h16 b hb, nI_add]
    have lift : (a < n → S b + L < S a) → wX2_merge_f15_20 k t (nI n) (nI L) (nI a) (nI (b + 1)) (nI (m + 1)) (gsu ρ 15 0 m (nI (S b + L))) := fun hv => by
      subst hab
      refine ih a (b + 1) (gup N (a + b) (S b + L)) _ (by omega) (gMI_l hs hB hI hb hv) (fun x x1 x2 => by rw [gsu_fam x1]; exact hf x x1 x2) (fun i hi => by rw [gsu_f (by decide)]; exact h16 i hi) (fun i hi => ?_)
      by_cases z : i = a + b
      · rw [z, gsu_e, gup_e]
      · rw [gsu_s z, gup_n z]; exact hN i (by omega)
    refine ⟨fun z => absurd z (nI_ge hm (by omega)), fun _ => ⟨fun c => ⟨vb, vm, lift (fun z => ?_)⟩, fun c => ?_⟩⟩
    · rw [nI_leI (by omega) (by omega)] at c; omega
    · have ha : a < n := by rw [nI_leI (by omega) (by omega)] at c; omega
      have va : vp_in (nI a) 256 := vp_in_nI (by omega) (by decide)
      have b1 := hB a ha
      have b2 := hB b hb
      rw [h16 a ha, nI_ltI (by omega) (by omega)]
      refine ⟨va, vb, fun c2 => ⟨vb, vm, lift (fun _ => c2)⟩, fun c2 => ⟨va, vm, ?_⟩⟩
      subst hab
      refine ih (a + 1) b (gup N (a + b) (S a)) _ (by omega) (gMI_p hs hB hI ha (by omega)) (fun x x1 x2 => by rw [gsu_fam x1]; exact hf x x1 x2) (fun i hi => by rw [gsu_f (by decide)]; exact h16 i hi) (fun i hi => ?_)
      by_cases z : i = a + b
      · rw [z, gsu_e, gup_e]
      · rw [gsu_s z, gup_n z]; exact hN i (by omega))
  obtain ⟨t, key⟩ := key
  refine ⟨t, key 0 0 (fun _ => 0) _ rfl ⟨Nat.le_refl 0, Nat.zero_le n, fun i hi => absurd hi (Nat.not_lt_zero i), fun i j _ hj => absurd hj (Nat.not_lt_zero j), fun i hi => absurd hi (Nat.not_lt_zero i), fun F => rfl⟩ (fun x x1 x2 => ?_) (fun i hi => ?_) (fun i hi => absurd hi (Nat.not_lt_zero i))⟩
  · funext b c
    exact gsc_f x2
  · rw [gsc_y ⟨Nat.zero_le i, by omega⟩, show 0 + (i - 0) = i by omega]
    exact hS i hi
set_option maxHeartbeats 1000000 in
theorem u_sumUp_f15 {p o : Nat} {G : Nat → Nat} {σ : gT} {k : gT → Prop} (ho : o + 8 ≤ 16) (hG : ∀ q, q < 16 → σ.1 17 p q = nI (G q)) (hb : ∀ q, q < 16 → G q ≤ 255)
    (h : ∀ (τ : gT) (N : Nat → Nat), (∀ a, a ≠ 15 → a ≠ 16 → τ.1 a = σ.1 a) → (∀ i, i < 256 → τ.1 15 0 i = nI (N i)) → (∀ i, i < 256 → N i ≤ 2040) → (∀ i j, i ≤ j → j < 256 → N i ≤ N j) → (∀ F : Nat → Nat, gSr (fun i => F (N i)) 256 = gSm (fun i => G (o + i)) 8 F) → k τ) : wX2_sumUp_f15 p (nI o) σ k := by
  unfold wX2_sumUp_f15
  refine ⟨show vp_in (nI 0) 256 from vp_in_nI (by decide) (by decide), ?_⟩
  have key := gloop (N := 8) (fun t j => ∀ (ρ : gT) (N : Nat → Nat), (∀ a, a ≠ 15 → a ≠ 16 → ρ.1 a = σ.1 a) → (∀ i, i < 2 ^ j → ρ.1 15 0 i = nI (N i)) → (∀ i, i < 2 ^ j → N i ≤ 255 * j) → (∀ i i2, i ≤ i2 → i2 < 2 ^ j → N i ≤ N i2) → (∀ F : Nat → Nat, gSr (fun i => F (N i)) (2 ^ j) = gSm (fun i => G (o + i)) j F) → wX2_sumUp_f15_7 k t p (nI o) (nI j) ρ) (by
    intro ρ N hf hN hB hs hF
    unfold wX2_sumUp_f15_7
    exact ⟨fun _ => h ρ N hf hN hB hs hF, fun z => absurd (by decide) z⟩) (by
    intro t j hj ih ρ N hf hN hB hs hF
    unfold wX2_sumUp_f15_7
    have e17 : ρ.1 17 = σ.1 17 := hf 17 (by decide) (by decide)
    have hp2 : 2 ^ j ≤ 128 := Nat.pow_le_pow_right (n := 2) (by decide) (show j ≤ 7 by omega)
    rw [nI_add, nI_1, one_shl ⟨j, hj⟩, nI_clamp (show o + j < 2 ^ 31 by omega), e17, hG (o + j) (by omega)]
    refine ⟨fun z => absurd z (nI_ge (b := 8) hj (by decide)), fun _ => ⟨vp_in_nI (by omega) (by decide), ?_⟩⟩
    have hbj := hb (o + j) (by omega)
    refine u_merge_f15 (B := 255 * j) hp2 (by omega) hN hs hB (fun τ N2 k1 k2 k3 k4 k5 => ?_)
    have e2 : 2 * 2 ^ j = 2 ^ (j + 1) := by rw [Nat.pow_succ]; omega
    rw [e2] at k2 k3 k4 k5
    refine ih τ N2 (fun a a1 a2 => (k1 a a1 a2).trans (hf a a1 a2)) k2 (fun i hi => ?_) k4 (fun F => ?_)
    · have := k3 i hi; omega
    · rw [k5 F, hF F, gSm_s, hF (fun x => F (x + G (o + j)))])
  obtain ⟨t, key⟩ := key
  refine ⟨t, key _ (fun _ => 0) (fun a a1 a2 => gsu_fam a1) (fun i hi => ?_) (fun i _ => Nat.zero_le _) (fun _ _ _ _ => Nat.le_refl 0) (fun F => ?_)⟩
  · have : i = 0 := by have : (2 : Nat) ^ 0 = 1 := rfl
                       omega
    subst this
    exact gsu_e
  · show 0 + F 0 = F 0
    omega
