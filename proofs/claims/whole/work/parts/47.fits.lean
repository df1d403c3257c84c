/-! PURE: fits: what both sides compute, row by row -/
def xd (j : Nat) : Int32 := iI (3 - (j : Int))
theorem xd_s (j : Nat) : xd j + -1 = xd (j + 1) := by
  unfold xd
  rw [← iI_m, ← iI_add]
  congr 1
  omega
theorem xd_0 : xd 0 = 3 := by decide
theorem xd_4 : xd 4 < 0 := by decide
theorem xd_n : ∀ j : Fin 4, ¬ xd j < 0 ∧ xd j = nI (3 - j) := by decide +kernel
def fc (r j : Nat) : Nat := r / 5 ^ j % 5
theorem f5r {a : Nat} (h : a < 2 ^ 31) : nI a - nI a / (5 : Int32) * (5 : Int32) = nI (a % 5) := pk_rem (d := 5) h (by decide) (by decide)
theorem f5d {a : Nat} (h : a < 2 ^ 31) : nI a / (5 : Int32) = nI (a / 5) := pk_div (d := 5) h (by decide) (by decide)
theorem f5s (r j : Nat) : r / 5 ^ j / 5 = r / 5 ^ (j + 1) := by rw [Nat.div_div_eq_div_mul, Nat.pow_succ]
def fS (r : Nat) : Nat → Int32
  | 0 => 0
  | j + 1 => fS r j ||| (if fc r j = 0 then 0 else (1 : Int32) <<< (xd j &&& 31))
def fT (r u j : Nat) : Int32 := ((nI (fc r j) + 3) + (nI u * xd j)) - ((nI (fc r j) + 3) + (nI u * xd j)) / 4 * 4
def fA (r u : Nat) : Nat → Int32
  | 0 => 0
  | j + 1 => fA r u j + (if fc r j = 0 then 0 else (gtr (fT r u j) 1 0).toInt32)
def fB (r u : Nat) : Nat → Int32
  | 0 => 0
  | j + 1 => fB r u j + (if fc r j = 0 then 0 else (gti (fT r u j) 1 0).toInt32)
def fBr (r u : Nat) : Int32 := fA r u 4 * fA r u 4 + fB r u 4 * fB r u 4
def fF (r : Nat) : Nat → Int32
  | 0 => 0
  | j + 1 => if fc r j = 0 then fF r j else nI (fc r j)
def fV (f : Nat → Int32) : List Int32 := [f 0, f 1, f 2, f 3]
theorem fV_iff (f g : Nat → Int32) : fV f = fV g ↔ ∀ u, u < 4 → f u = g u := by
  unfold fV
  constructor
  · intro h u hu
    injection h with h0 h
    injection h with h1 h
    injection h with h2 h
    injection h with h3 h
    rcases (show u = 0 ∨ u = 1 ∨ u = 2 ∨ u = 3 by omega) with rfl | rfl | rfl | rfl <;> assumption
  · intro h
    rw [h 0 (by decide), h 1 (by decide), h 2 (by decide), h 3 (by decide)]
def fmf (near : Nat) (V : List Int32) (r : Nat) : Bool := decide (fS r 4 = nI near) && decide (fV (fBr r) = V)
theorem fc_lt (r j : Nat) : fc r j < 5 := Nat.mod_lt _ (by decide)
set_option maxHeartbeats 1000000 in
theorem v_fit9 {r : Nat} {x2 x3 : Int32} {σ : gT} {k : Int32 → gT → Prop} (hr : r < 625) (h : (¬ fS r 4 = x2 → wX10_isFit_57 k (nI r) x3 0 σ) ∧ (fS r 4 = x2 → wX10_isFit_57 k (nI r) x3 1 σ)) : wX10_isFit (nI r) x2 x3 σ k := by
  unfold wX10_isFit
  obtain ⟨n, key⟩ := gloop (N := 4) (fun t j => wX10_isFit_9 k t (nI r) x2 x3 (fS r j) (nI (r / 5 ^ j)) (xd j) σ) (by
    unfold wX10_isFit_9
    exact ⟨fun _ => h, fun z => absurd xd_4 z⟩) (by
    intro n j hj hn
    have b : r / 5 ^ j < 2 ^ 31 := Nat.lt_of_le_of_lt (Nat.div_le_self _ _) (by omega)
    have e : fS r (j + 1) = fS r j ||| (if fc r j = 0 then 0 else (1 : Int32) <<< (xd j &&& 31)) := rfl
    rw [e] at hn
    have hc := fc_lt r j
    unfold wX10_isFit_9 wX10_isFit_31
    rw [f5r b, f5d b, f5s, xd_s]
    have e2 : nI (r / 5 ^ j % 5) = nI (fc r j) := rfl
    rw [e2]
    refine ⟨fun z => absurd z (xd_n ⟨j, hj⟩).1, fun _ => ⟨by decide, fun c => ⟨by decide, ?_⟩, fun c => ⟨by decide, ?_⟩⟩⟩
    · rw [if_pos (by rw [show (0 : Int32) = nI 0 from rfl, nI_leI (by omega) (by decide)] at c; omega)] at hn
      exact hn
    · rw [if_neg (by intro z; rw [z] at c; exact c (by decide))] at hn
      exact hn)
  have key : wX10_isFit_9 k n (nI r) x2 x3 0 (nI (r / 5 ^ 0)) (xd 0) σ := key
  rw [Nat.pow_zero, Nat.div_one, xd_0] at key
  exact ⟨n, key⟩
set_option maxHeartbeats 1000000 in
theorem v_fit85 {r u : Nat} {x3 : Int32} {σ : gT} {k : Int32 → gT → Prop} {K62 : Int32 → Int32 → Int32 → Int32 → gT → Prop} (hr : r < 625) (h : vp_in (x3 + nI u) 512 ∧ (¬ fBr r u = σ.1 30 0 (x3 + nI u).toNatClampNeg → K62 (nI r) x3 0 (nI (u + 1)) σ) ∧ (fBr r u = σ.1 30 0 (x3 + nI u).toNatClampNeg → K62 (nI r) x3 1 (nI (u + 1)) σ)) : ∃ n, wX10_isFit_85 K62 k n (nI r) x3 (nI r) (nI u) 0 0 3 σ := by
  obtain ⟨n, key⟩ := gloop (N := 4) (fun t j => wX10_isFit_85 K62 k t (nI r) x3 (nI (r / 5 ^ j)) (nI u) (fA r u j) (fB r u j) (xd j) σ) (by
    unfold wX10_isFit_85 wX10_isFit_194
    rw [nI_1]
    exact ⟨fun _ => h, fun z => absurd xd_4 z⟩) (by
    intro n j hj hn
    have b : r / 5 ^ j < 2 ^ 31 := Nat.lt_of_le_of_lt (Nat.div_le_self _ _) (by omega)
    have e : fA r u (j + 1) = fA r u j + (if fc r j = 0 then 0 else (gtr (fT r u j) 1 0).toInt32) := rfl
    have e1 : fB r u (j + 1) = fB r u j + (if fc r j = 0 then 0 else (gti (fT r u j) 1 0).toInt32) := rfl
    rw [e, e1] at hn
    have hc := fc_lt r j
    unfold wX10_isFit_85 wX10_isFit_135 wX10_isFit_157
    rw [f5r b, f5d b, f5s, xd_s]
    have e2 : nI (r / 5 ^ j % 5) = nI (fc r j) := rfl
    have e3 : ((nI (fc r j) + 3) + (nI u * xd j)) - ((nI (fc r j) + 3) + (nI u * xd j)) / 4 * 4 = fT r u j := rfl
    rw [e2, e3, v_tRe]
    refine ⟨fun z => absurd z (xd_n ⟨j, hj⟩).1, fun _ => ⟨by decide, by decide, by decide, fun c => ⟨fun _ => v_tIm.mpr ?_, fun z => absurd z c⟩, fun c => ⟨fun z => absurd c z, fun _ => ?_⟩⟩⟩
    · have c1 : ¬ fc r j = 0 := by intro z; rw [z] at c; exact c rfl
      rw [if_neg c1, if_neg c1] at hn
      exact hn
    · have c1 : fc r j = 0 := by rw [show (0 : Int32) = nI 0 from rfl, nI_eq (by omega) (by decide)] at c; exact c
      rw [if_pos c1, if_pos c1] at hn
      exact hn)
  have key : wX10_isFit_85 K62 k n (nI r) x3 (nI (r / 5 ^ 0)) (nI u) 0 0 (xd 0) σ := key
  rw [Nat.pow_zero, Nat.div_one, xd_0] at key
  exact ⟨n, key⟩
set_option maxHeartbeats 1000000 in
theorem v_isFit {r near at_ : Nat} {V : Nat → Int32} {σ : gT} {k : Int32 → gT → Prop} (hr : r < 625) (ha : at_ + 4 ≤ 512) (hV : ∀ u, u < 4 → σ.1 30 0 (at_ + u) = V u) (h : k (if fmf near (fV V) r = true then 1 else 0) σ) : wX10_isFit (nI r) (nI near) (nI at_) σ k := by
  have hm : fmf near (fV V) r = true ↔ fS r 4 = nI near ∧ ∀ u, u < 4 → fBr r u = V u := by
    unfold fmf
    rw [Bool.and_eq_true, decide_eq_true_iff, decide_eq_true_iff, fV_iff]
  have f0 : ∀ t u, k 0 σ → wX10_isFit_62 k (t + 1) (nI r) (nI at_) 0 (nI u) σ := fun t u hk => by
    unfold wX10_isFit_62
    exact ⟨fun _ => ⟨Or.inl rfl, hk⟩, fun _ => ⟨fun _ => ⟨Or.inl rfl, hk⟩, fun z => absurd rfl z⟩⟩
  refine v_fit9 hr ⟨fun c => ?_, fun c => ?_⟩
  · rw [if_neg (fun z => c (hm.mp z).1)] at h
    exact ⟨1, f0 0 0 h⟩
  · have key := gloop (N := 4) (fun t u => ((∀ v, v < u → fBr r v = V v) → wX10_isFit_62 k t (nI r) (nI at_) 1 (nI u) σ) ∧ (k 0 σ → wX10_isFit_62 k t (nI r) (nI at_) 0 (nI u) σ)) ⟨fun hv => by
      unfold wX10_isFit_62
      rw [if_pos (hm.mpr ⟨c, hv⟩)] at h
      exact ⟨fun _ => ⟨Or.inr rfl, h⟩, fun z => absurd (by decide) z⟩, fun hk => f0 0 4 hk⟩ (fun t u hu ih => ⟨fun hv => by
      unfold wX10_isFit_62
      refine ⟨fun z => absurd z (nI_ge (b := 4) hu (by decide)), fun _ => ⟨fun z => absurd z (by decide), fun _ => v_fit85 hr ?_⟩⟩
      rw [nI_add, nI_clamp (show at_ + u < 2 ^ 31 by omega), hV u hu]
      refine ⟨vp_in_nI (by omega) (by decide), fun c2 => ih.2 ?_, fun c2 => ih.1 (fun v hv2 => ?_)⟩
      · rw [if_neg (fun z => c2 ((hm.mp z).2 u hu))] at h
        exact h
      · by_cases z : v = u
        · rw [z]; exact c2
        · exact hv v (by omega), fun hk => f0 t u hk⟩)
    obtain ⟨t, key⟩ := key
    exact ⟨t, key.1 (fun v hv => absurd hv (Nat.not_lt_zero v))⟩
set_option maxHeartbeats 1000000 in
theorem v_first {r : Nat} {x1 x2 x3 x4 x6 x7 : Int32} {σ : gT} {k : Int32 → gT → Prop} {K65 : Int32 → Int32 → Int32 → Int32 → Int32 → Int32 → Int32 → gT → Prop} (hr : r < 625) (h : (2 ≤ fF r 4 → K65 x1 x2 x3 x4 x6 (x7 + 0) (nI (r + 1)) σ) ∧ (¬ 2 ≤ fF r 4 → K65 x1 x2 x3 x4 x6 (x7 + 1) (nI (r + 1)) σ)) : ∃ n, wX10_fits_112 K65 k n x1 x2 x3 x4 x6 x7 (nI r) (nI r) 0 3 σ := by
  obtain ⟨n, key⟩ := gloop (N := 4) (fun t j => wX10_fits_112 K65 k t x1 x2 x3 x4 x6 x7 (nI r) (nI (r / 5 ^ j)) (fF r j) (xd j) σ) (by
    unfold wX10_fits_112 wX10_fits_160 wX10_fits_163
    rw [nI_1]
    exact ⟨fun _ => h, fun z => absurd xd_4 z⟩) (by
    intro n j hj hn
    have b : r / 5 ^ j < 2 ^ 31 := Nat.lt_of_le_of_lt (Nat.div_le_self _ _) (by omega)
    have e : fF r (j + 1) = if fc r j = 0 then fF r j else nI (fc r j) := rfl
    rw [e] at hn
    have hc := fc_lt r j
    unfold wX10_fits_112 wX10_fits_133
    rw [f5r b, f5d b, f5s, xd_s]
    have e2 : nI (r / 5 ^ j % 5) = nI (fc r j) := rfl
    rw [e2]
    refine ⟨fun z => absurd z (xd_n ⟨j, hj⟩).1, fun _ => ⟨by decide, fun c => ⟨by decide, ?_⟩, fun c => ⟨by decide, by decide, ?_⟩⟩⟩
    · rw [if_pos (by rw [show (0 : Int32) = nI 0 from rfl, nI_leI (by omega) (by decide)] at c; omega)] at hn
      exact hn
    · rw [if_neg (by intro z; rw [z] at c; exact c (by decide))] at hn
      exact hn)
  have key : wX10_fits_112 K65 k n x1 x2 x3 x4 x6 x7 (nI r) (nI (r / 5 ^ 0)) 0 (xd 0) σ := key
  rw [Nat.pow_zero, Nat.div_one, xd_0] at key
  exact ⟨n, key⟩
def gpick (p : Nat → Bool) (val : Nat → Int32) : Nat → Nat → Nat → Int32
  | 0, _, _ => -1000000
  | m + 1, i, k => if p i = true then (if k = 0 then val i else gpick p val m (i + 1) (k - 1)) else gpick p val m (i + 1) k
set_option maxHeartbeats 1000000 in
theorem gpick_l (p : Nat → Bool) (val : Nat → Int32) : ∀ m i k, gpick p val m i k = (((List.range' i m).filter p).map val).getD k (-1000000)
  | 0, i, k => by
    show (-1000000 : Int32) = ([] : List Int32).getD k (-1000000)
    rfl
  | m + 1, i, k => by
    rw [List.range'_succ, List.filter_cons]
    show (if p i = true then (if k = 0 then val i else gpick p val m (i + 1) (k - 1)) else gpick p val m (i + 1) k) = _
    by_cases c : p i = true
    · rw [if_pos c, if_pos c, List.map_cons]
      cases k with
      | zero => rfl
      | succ k =>
        rw [if_neg (by omega), List.getD_cons_succ, gpick_l p val m (i + 1)]
        rfl
    · rw [if_neg c, if_neg c, gpick_l p val m (i + 1)]
theorem gct_l (p : Nat → Bool) : ∀ n, gct p n = ((List.range n).filter p).length
  | 0 => rfl
  | n + 1 => by
    rw [gct_s, List.range_succ, List.filter_append, List.length_append, gct_l p n]
    congr 1
    by_cases c : p n = true
    · rw [if_pos c, List.filter_cons, if_pos c]; rfl
    · rw [if_neg c, List.filter_cons, if_neg c]; rfl
set_option maxHeartbeats 1000000 in
/-- the model's loop over the rows: how many -/
theorem v_fitsN {near s i : Nat} {x4 : Int32} {V : Nat → Int32} {σ : gT} {k : Int32 → gT → Prop} (hs : s < 8) (hi : i + 4 ≤ 64) (hV : ∀ u, u < 4 → σ.1 30 0 (64 * s + i + u) = V u) (hx : ∀ n, n < 1000 → ¬ nI n = x4) (h : (¬ x4 = -1 → (¬ x4 = -2 → k (-1000000) σ) ∧ (x4 = -2 → k (nI (gct (fun r => fmf near (fV V) r && decide (¬ 2 ≤ fF r 4)) 625)) σ)) ∧ (x4 = -1 → k (nI (gct (fmf near (fV V)) 625)) σ)) : ∃ n, wX10_fits_65 k n (nI near) (nI s) (nI i) x4 0 0 0 σ := by
  refine gloop (N := 625) (fun t r => wX10_fits_65 k t (nI near) (nI s) (nI i) x4 (nI (gct (fmf near (fV V)) r)) (nI (gct (fun r => fmf near (fV V) r && decide (¬ 2 ≤ fF r 4)) r)) (nI r) σ) ?_ ?_
  · unfold wX10_fits_65
    exact ⟨fun _ => h, fun z => absurd (by decide) z⟩
  · intro t r hr hn
    rw [gct_s, gct_s] at hn
    unfold wX10_fits_65 wX10_fits_163
    rw [ix64, nI_1, nI_1]
    refine ⟨fun z => absurd z (nI_ge (b := 625) hr (by decide)), fun _ => v_isFit (V := V) hr (by omega) hV ?_⟩
    by_cases c : fmf near (fV V) r = true
    · have l := gct_le (fmf near (fV V)) r
      rw [if_pos c] at hn ⊢
      refine ⟨fun z => absurd z (by decide), fun _ => ⟨fun _ => v_first hr ⟨fun c2 => ?_, fun c2 => ?_⟩, fun z => absurd z (hx _ (by omega))⟩⟩
      · rw [if_neg (by rw [c, Bool.true_and, decide_eq_true_iff]; exact fun z => z c2)] at hn
        rw [nI_0r]
        exact hn
      · rw [if_pos (by rw [c, Bool.true_and, decide_eq_true_iff]; exact c2)] at hn
        rw [nI_1]
        exact hn
    · have c' : fmf near (fV V) r = false := by cases z : fmf near (fV V) r with | true => exact absurd z c | false => rfl
      rw [if_neg c] at hn ⊢
      rw [if_neg (by rw [c', Bool.false_and]; decide)] at hn
      exact ⟨fun _ => hn, fun z => absurd rfl z⟩
set_option maxHeartbeats 1000000 in
/-- the model's loop over the rows: the one that is asked for -/
theorem v_fitsK {near s i K : Nat} {V : Nat → Int32} {σ : gT} {k : Int32 → gT → Prop} (hs : s < 8) (hi : i + 4 ≤ 64) (hK : K < 2 ^ 31) (hV : ∀ u, u < 4 → σ.1 30 0 (64 * s + i + u) = V u) (h : k (gpick (fmf near (fV V)) nI 625 0 K) σ) : ∃ n, wX10_fits_65 k n (nI near) (nI s) (nI i) (nI K) 0 0 0 σ := by
  have key := gloop (N := 625) (fun t r => ∀ (n : Nat) (x7 : Int32), n ≤ K → n ≤ r → k (gpick (fmf near (fV V)) nI (625 - r) r (K - n)) σ → wX10_fits_65 k t (nI near) (nI s) (nI i) (nI K) (nI n) x7 (nI r) σ) (by
    intro n x7 h1 h2 hk
    unfold wX10_fits_65
    have k1 : ¬ nI K = -1 := by
      intro z; rw [fa_eq, nI_toInt hK] at z
      have e1 : (-1 : Int32).toInt = -1 := by decide
      omega
    have k2 : ¬ nI K = -2 := by
      intro z; rw [fa_eq, nI_toInt hK] at z
      have e1 : (-2 : Int32).toInt = -2 := by decide
      omega
    exact ⟨fun _ => ⟨fun _ => ⟨fun _ => hk, fun z => absurd z k2⟩, fun z => absurd z k1⟩, fun z => absurd (by decide) z⟩) (by
    intro t r hr ih n x7 h1 h2 hk
    unfold wX10_fits_65 wX10_fits_163
    rw [ix64, nI_1, nI_1]
    refine ⟨fun z => absurd z (nI_ge (b := 625) hr (by decide)), fun _ => v_isFit (V := V) hr (by omega) hV ?_⟩
    have e : 625 - r = (625 - (r + 1)) + 1 := by omega
    rw [e] at hk
    have e2 : gpick (fmf near (fV V)) nI ((625 - (r + 1)) + 1) r (K - n) = if fmf near (fV V) r = true then (if K - n = 0 then nI r else gpick (fmf near (fV V)) nI (625 - (r + 1)) (r + 1) (K - n - 1)) else gpick (fmf near (fV V)) nI (625 - (r + 1)) (r + 1) (K - n) := rfl
    rw [e2] at hk
    by_cases c : fmf near (fV V) r = true
    · rw [if_pos c] at hk ⊢
      refine ⟨fun z => absurd z (by decide), fun _ => ⟨fun c2 => ?_, fun c2 => ?_⟩⟩
      · have c3 : ¬ n = K := fun z => c2 (by rw [z])
        rw [if_neg (by omega), show K - n - 1 = K - (n + 1) by omega] at hk
        exact v_first hr ⟨fun _ => ih (n + 1) _ (by omega) (by omega) hk, fun _ => ih (n + 1) _ (by omega) (by omega) hk⟩
      · rw [nI_eq (by omega) hK] at c2
        rw [if_pos (by omega)] at hk
        exact hk
    · rw [if_neg c] at hk ⊢
      exact ⟨fun _ => ih n x7 h1 (by omega) hk, fun z => absurd rfl z⟩)
  obtain ⟨t, key⟩ := key
  exact ⟨t, key 0 0 (Nat.zero_le _) (Nat.le_refl _) h⟩
