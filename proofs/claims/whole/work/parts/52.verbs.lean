/-! PURE: which word a name is, on both sides -/
def wt : List (List Nat) := [[112, 111, 105, 110, 116], [112, 108, 97, 110, 101], [100, 105, 109], [116, 117, 114, 110], [97, 100, 100], [119, 97, 121], [119, 105, 112, 101]]
def wl (i : Nat) : Nat := (wt.getD i []).length
def wb (i x : Nat) : Nat := (wt.getD i []).getD x 0
def ww (i : Nat) : Nat := [482905517684, 482854661733, 6580589, 1953854062, 6382692, 7823737, 2003398757].getD i 0
theorem wl_ok : ∀ i : Fin 7, (Int32.ofNat (gLen.getD i 0)) >>> ((0 : Int32) &&& 31) = nI (wl i) ∧ gLen.getD i 0 = wl i ∧ 3 ≤ wl i ∧ wl i ≤ 5 := by decide +kernel
theorem wb_ok : ∀ i : Fin 7, ∀ x : Fin 5, (x : Nat) < wl i → ((((gByt.getD i []).getD x 0) &&& 255).toUInt32 % 65536).toInt32 = nI (wb i x) ∧ ((nI (wb i x)).toUInt32 % 65536).toInt32 = nI (wb i x) ∧ 97 ≤ wb i x ∧ wb i x ≤ 122 := by decide +kernel
def spB (b : Nat → Nat) (s e i : Nat) : Bool := decide (e - s = wl i) && (List.range (wl i)).all (fun x => decide (b (s + x) = wb i x))
theorem spB_iff {b : Nat → Nat} {s e i : Nat} : spB b s e i = true ↔ e - s = wl i ∧ ∀ x, x < wl i → b (s + x) = wb i x := by
  unfold spB
  rw [Bool.and_eq_true, decide_eq_true_iff, List.all_eq_true]
  exact ⟨fun h => ⟨h.1, fun x hx => of_decide_eq_true (h.2 x (List.mem_range.mpr hx))⟩, fun h => ⟨h.1, fun x hx => decide_eq_true (h.2 x (List.mem_range.mp hx))⟩⟩
theorem u_len {i : Nat} {σ : gT} {k : Int32 → gT → Prop} (hi : i < 7) (h : k (nI (wl i)) σ) : wJ0_length_8abf5 i σ k := by
  unfold wJ0_length_8abf5 wJ0_coder_7d493
  refine ⟨fun z => absurd z (by decide), fun _ => ⟨by decide, ?_⟩⟩
  show k (Int32.ofNat (gLen.getD i 0) >>> ((0 : Int32) &&& 31)) σ
  rw [(wl_ok ⟨i, hi⟩).1]
  exact h
theorem u_char {i x : Nat} {σ : gT} {k : Int32 → gT → Prop} (hi : i < 7) (hx : x < wl i) (h : k (nI (wb i x)) σ) : wJ0_charAt_5068e i (nI x) σ k := by
  have h5 := (wl_ok ⟨i, hi⟩).2.2.2
  have hL := (wl_ok ⟨i, hi⟩).2.1
  dsimp only at h5 hL
  obtain ⟨e1, e2, -, -⟩ := wb_ok ⟨i, hi⟩ ⟨x, by omega⟩ hx
  dsimp only at e1 e2
  unfold wJ0_charAt_5068e wJ0_isLatin1_aae02 wJ1_charAt_3b067 wJ0_checkIndex_df160 wJ3_checkIndex_8e157 wJ3_checkIndex_8e157_9
  rw [hL, nI_clamp (show x < 2 ^ 31 by omega), e1]
  refine ⟨fun z => absurd z (by decide), fun _ => ⟨fun z => absurd rfl z, fun _ => ⟨Or.inr rfl, fun z => absurd z (by decide), fun _ => ⟨fun z => nI_pos (by omega) z, fun _ => ⟨fun _ => ⟨vp_in_nI hx (by omega), e2, e2, h⟩, fun z => z (nI_lt hx (by omega))⟩⟩⟩⟩⟩
set_option maxHeartbeats 1000000 in
theorem u_spells {b : Nat → Nat} {n s e i : Nat} {τ : gT} {k : Int32 → gT → Prop} (hC : gCb b n τ) (hi : i < 7) (h2 : τ.1 7 0 2 = nI s) (h3 : τ.1 7 0 3 = nI e) (hse : s ≤ e) (he : e ≤ n) (hl : ∀ q, s ≤ q → q < e → b q < 128) (h : k (if spB b s e i = true then 1 else 0) τ) : wX7_spells i τ k := by
  have hn := hC.2.1
  have h5 := (wl_ok ⟨i, hi⟩).2.2.2
  dsimp only at h5
  unfold wX7_spells
  refine u_len hi ?_
  rw [h3, h2, pk_sub hse, nI_eq (by omega) (by omega)]
  refine ⟨fun c => ?_, fun c => ⟨Or.inl rfl, ?_⟩⟩
  · have key := gloop (N := wl i) (fun t x => (∀ y, y < x → b (s + y) = wb i y) → wX7_spells_20 k t i (nI x) τ) (by
      intro hy
      unfold wX7_spells_20
      refine u_len hi ⟨fun _ => ⟨Or.inr rfl, ?_⟩, fun z => absurd (nI_le (Nat.le_refl _) (by omega)) z⟩
      rw [if_pos (spB_iff.mpr ⟨c.symm, hy⟩)] at h
      exact h) (by
      intro t x hx ih hy
      unfold wX7_spells_20
      refine u_len hi ⟨fun z => absurd z (nI_ge hx (by omega)), fun _ => ?_⟩
      obtain ⟨b1, b2⟩ := hC.2.2 (s + x) (by omega)
      have eb : (nI (b (s + x))).toInt8.toInt32 = nI (b (s + x)) := (sb_c ⟨b (s + x), b1⟩).2.2.2.2.2 (hl (s + x) (by omega) (by omega))
      obtain ⟨-, -, w1, w2⟩ := wb_ok ⟨i, hi⟩ ⟨x, by omega⟩ hx
      dsimp only at w1 w2
      rw [h2, nI_add, nI_clamp (show s + x < 2 ^ 31 by omega), b2, eb, nI_1]
      refine ⟨vp_in_nI (by omega) (by decide), u_char hi hx ?_⟩
      rw [nI_eq (by omega) (by omega)]
      refine ⟨fun c2 => ih (fun y hy2 => ?_), fun c2 => ⟨Or.inl rfl, ?_⟩⟩
      · by_cases z : y = x
        · rw [z]; exact c2
        · exact hy y (by omega)
      · rw [if_neg (fun z => c2 ((spB_iff.mp z).2 x hx))] at h
        exact h)
    obtain ⟨t, key⟩ := key
    exact ⟨t, key (fun y hy => absurd hy (Nat.not_lt_zero y))⟩
  · rw [if_neg (fun z => c (spB_iff.mp z).1.symm)] at h
    exact h
-- the first that fits
def vbf (P : Nat → Bool) : Nat → Nat → Nat
  | 0, v => v
  | m + 1, v => if P v = true then v else vbf P m (v + 1)
def vP (b : Nat → Nat) (n s i : Nat) : Bool := decide (kS b n s = 1) && spB b s (eS b n s) i
def vb (b : Nat → Nat) (n s : Nat) : Nat := vbf (vP b n s) 7 0
set_option maxHeartbeats 1000000 in
theorem kS_name {b : Nat → Nat} {n s : Nat} (h : kS b n s = 1) : s < n ∧ cL b s = true ∧ eS b n s = sk (cL b) n s := by
  unfold kS at h
  by_cases c1 : n ≤ s
  · rw [if_pos c1] at h; omega
  · rw [if_neg c1] at h
    by_cases c2 : cL b s = true
    · refine ⟨by omega, c2, ?_⟩
      unfold eS
      rw [if_neg c1, if_pos c2]
    · rw [if_neg c2] at h
      by_cases c3 : cF b s = true
      · rw [if_pos c3] at h
        split at h <;> omega
      · rw [if_neg c3] at h
        split at h <;> omega
set_option maxHeartbeats 1000000 in
theorem eS_bd {b : Nat → Nat} {n s : Nat} (hs : s ≤ n) : s ≤ eS b n s ∧ eS b n s ≤ n ∧ (s < n → s < eS b n s) := by
  unfold eS
  by_cases c1 : n ≤ s
  · rw [if_pos c1]; exact ⟨Nat.le_refl _, hs, fun z => by omega⟩
  · rw [if_neg c1]
    by_cases c2 : cL b s = true
    · rw [if_pos c2]
      have := sk_all (P := cL b) (n := n) _ s rfl hs
      refine ⟨this.1, this.2.1, fun z => ?_⟩
      rw [sk_go z c2]
      have := sk_all (P := cL b) (n := n) _ (s + 1) rfl (by omega)
      omega
    · rw [if_neg c2]
      by_cases c3 : cF b s = true
      · rw [if_pos c3]
        have := sk_all (P := cF b) (n := n) _ s rfl hs
        refine ⟨this.1, this.2.1, fun z => ?_⟩
        rw [sk_go z c3]
        have := sk_all (P := cF b) (n := n) _ (s + 1) rfl (by omega)
        omega
      · rw [if_neg c3]
        omega
theorem kS_letters {b : Nat → Nat} {n s : Nat} (h : kS b n s = 1) : ∀ q, s ≤ q → q < eS b n s → 97 ≤ b q ∧ b q ≤ 122 := by
  obtain ⟨h1, h2, h3⟩ := kS_name h
  rw [h3]
  intro q q1 q2
  exact of_decide_eq_true ((sk_all (P := cL b) (n := n) _ s rfl (by omega)).2.2.1 q q1 q2)
set_option maxHeartbeats 1000000 in
theorem u_verb {b : Nat → Nat} {n s : Nat} {τ : gT} {k : Int32 → gT → Prop} (hC : gCb b n τ) (hs : s ≤ n) (h2 : τ.1 7 0 2 = nI s) (h3 : τ.1 7 0 3 = nI (eS b n s)) (h4 : τ.1 7 0 4 = nI (kS b n s)) (h : k (nI (vb b n s)) τ) : wX5_verbOf τ k := by
  have hn := hC.2.1
  have hk : kS b n s ≤ 4 := by unfold kS; split; omega; split; omega; split; split <;> omega; split <;> omega
  obtain ⟨e1, e2, e3⟩ := eS_bd (b := b) hs
  unfold wX5_verbOf
  have key := gloop (N := 7) (fun t v => k (nI (vbf (vP b n s) (7 - v) v)) τ → wX5_verbOf_2 k t (nI v) τ) (by
    intro hk
    unfold wX5_verbOf_2
    exact ⟨fun _ => hk, fun z => absurd (by decide) z⟩) (by
    intro t v hv ih hk2
    rw [show 7 - v = (7 - (v + 1)) + 1 by omega] at hk2
    have ev : vbf (vP b n s) ((7 - (v + 1)) + 1) v = if vP b n s v = true then v else vbf (vP b n s) (7 - (v + 1)) (v + 1) := rfl
    rw [ev] at hk2
    unfold wX5_verbOf_2 wX5_verbOf_29
    rw [h4, nI_1, show (1 : Int32) = nI 1 from rfl, nI_eq (by omega) (by decide)]
    refine ⟨fun z => absurd z (nI_ge (b := 7) hv (by decide)), fun _ => ⟨fun c => ih ?_, fun c => ?_⟩⟩
    · rw [if_neg (by unfold vP; rw [decide_eq_false c, Bool.false_and]; decide)] at hk2
      exact hk2
    · have sp : wX7_spells v τ (fun r5 s4 => (r5 = 0 → wX5_verbOf_2 k t (nI (v + 1)) s4) ∧ (¬ r5 = 0 → k (nI v) s4)) := by
        refine u_spells hC hv h2 h3 e1 e2 (fun q q1 q2 => by have := kS_letters c q q1 q2; omega) ?_
        by_cases c2 : spB b s (eS b n s) v = true
        · rw [if_pos (by unfold vP; rw [decide_eq_true c, Bool.true_and]; exact c2)] at hk2
          rw [if_pos c2]
          exact ⟨fun z => absurd z (by decide), fun _ => hk2⟩
        · rw [if_neg (by unfold vP; rw [decide_eq_true c, Bool.true_and]; exact c2)] at hk2
          rw [if_neg c2]
          exact ⟨fun _ => ih hk2, fun z => absurd rfl z⟩
      unfold wX5_wordOf
      rw [nI_toInt (show v < 2 ^ 31 by omega)]
      rcases (show v = 0 ∨ v = 1 ∨ v = 2 ∨ v = 3 ∨ v = 4 ∨ v = 5 ∨ v = 6 by omega) with rfl | rfl | rfl | rfl | rfl | rfl | rfl <;> (refine ⟨fun z => ?_, fun z => ?_, fun z => ?_, fun z => ?_, fun z => ?_, fun z => ?_, fun z => ?_, trivial⟩ <;> first | exact sp | omega))
  obtain ⟨t, key⟩ := key
  exact ⟨t, key h⟩
-- the model's word
def wv (b : Nat → Nat) (s : Nat) : Nat → Nat
  | 0 => 0
  | m + 1 => wv b s m * 256 + b (s + m)
theorem wv_s (b : Nat → Nat) (s m : Nat) : wv b s (m + 1) = wv b s m * 256 + b (s + m) := rfl
theorem wv_cong {b c : Nat → Nat} {s t : Nat} : ∀ {m : Nat}, (∀ x, x < m → b (s + x) = c (t + x)) → wv b s m = wv c t m
  | 0, _ => rfl
  | m + 1, h => by rw [wv_s, wv_s, wv_cong (fun x hx => h x (by omega)), h m (by omega)]
theorem wv_lt {b : Nat → Nat} {s : Nat} : ∀ {m : Nat}, (∀ x, x < m → b (s + x) < 256) → wv b s m < 256 ^ m
  | 0, _ => Nat.one_pos
  | m + 1, h => by
    have := wv_lt (m := m) (fun x hx => h x (by omega))
    have := h m (by omega)
    rw [wv_s, Nat.pow_succ]
    omega
set_option maxHeartbeats 1000000 in
theorem wv_inj {b c : Nat → Nat} {s t : Nat} : ∀ (m l : Nat), (∀ x, x < m → 1 ≤ b (s + x) ∧ b (s + x) < 256) → (∀ x, x < l → 1 ≤ c (t + x) ∧ c (t + x) < 256) → wv b s m = wv c t l → m = l ∧ ∀ x, x < m → b (s + x) = c (t + x)
  | 0, 0, _, _, _ => ⟨rfl, fun x hx => absurd hx (Nat.not_lt_zero x)⟩
  | 0, l + 1, _, h2, e => by
    have := h2 l (by omega)
    rw [wv_s] at e
    have e : 0 = wv c t l * 256 + c (t + l) := e
    omega
  | m + 1, 0, h1, _, e => by
    have := h1 m (by omega)
    rw [wv_s] at e
    have e : wv b s m * 256 + b (s + m) = 0 := e
    omega
  | m + 1, l + 1, h1, h2, e => by
    have a1 := h1 m (by omega)
    have a2 := h2 l (by omega)
    rw [wv_s, wv_s] at e
    obtain ⟨i1, i2⟩ := wv_inj m l (fun x hx => h1 x (by omega)) (fun x hx => h2 x (by omega)) (by omega)
    subst i1
    refine ⟨rfl, fun x hx => ?_⟩
    by_cases z : x = m
    · rw [z]; omega
    · exact i2 x (by omega)
theorem ww_ok : ∀ i : Fin 7, wv (wb i) 0 (wl i) = ww i ∧ 0 < ww i ∧ ww i < 2 ^ 40 := by decide +kernel
theorem ww_inj : ∀ i : Fin 7, ∀ j : Fin 7, ww i = ww j → i = j := by decide +kernel
def wY (b : Nat → Nat) (n s : Nat) : Nat := if kS b n s = 1 ∧ eS b n s - s < 8 then wv b s (eS b n s - s) else 0
set_option maxHeartbeats 1000000 in
theorem wY_iff {b : Nat → Nat} {n s i : Nat} (hi : i < 7) : wY b n s = ww i ↔ vP b n s i = true := by
  obtain ⟨e1, e2, e3⟩ := ww_ok ⟨i, hi⟩
  have h5 := (wl_ok ⟨i, hi⟩).2.2
  dsimp only at e1 e2 h5
  unfold wY vP
  rw [Bool.and_eq_true, decide_eq_true_iff, spB_iff]
  by_cases c : kS b n s = 1 ∧ eS b n s - s < 8
  · rw [if_pos c]
    have hl := kS_letters c.1
    rw [← e1]
    constructor
    · intro h
      have hw : ∀ x, x < wl i → 1 ≤ wb i (0 + x) ∧ wb i (0 + x) < 256 := fun x hx => by
        rw [Nat.zero_add]
        have := (wb_ok ⟨i, hi⟩ ⟨x, by omega⟩ hx).2.2
        dsimp only at this
        omega
      obtain ⟨j1, j2⟩ := wv_inj (c := wb i) (t := 0) _ (wl i) (fun x hx => by have := hl (s + x) (by omega) (by omega); omega) hw h
      refine ⟨c.1, j1, fun x hx => ?_⟩
      have := j2 x (by omega)
      rw [Nat.zero_add] at this
      exact this
    · rintro ⟨-, j1, j2⟩
      rw [j1]
      exact wv_cong (fun x hx => by rw [Nat.zero_add]; exact j2 x hx)
  · rw [if_neg c]
    constructor
    · intro h; omega
    · rintro ⟨k1, k2, -⟩
      exact absurd ⟨k1, by omega⟩ c
set_option maxHeartbeats 1000000 in
theorem vbf_ok {P : Nat → Bool} : ∀ (m v : Nat), v ≤ vbf P m v ∧ vbf P m v ≤ v + m ∧ (vbf P m v < v + m → P (vbf P m v) = true) ∧ ∀ i, v ≤ i → i < vbf P m v → ¬ P i = true
  | 0, v => ⟨Nat.le_refl _, Nat.le_refl _, fun h => absurd h (Nat.lt_irrefl _), fun i i1 i2 => absurd (Nat.lt_of_le_of_lt i1 i2) (Nat.lt_irrefl _)⟩
  | m + 1, v => by
    have ev : vbf P (m + 1) v = if P v = true then v else vbf P m (v + 1) := rfl
    rw [ev]
    by_cases c : P v = true
    · rw [if_pos c]
      exact ⟨Nat.le_refl _, by omega, fun _ => c, fun i i1 i2 => by omega⟩
    · rw [if_neg c]
      obtain ⟨h1, h2, h3, h4⟩ := vbf_ok (P := P) m (v + 1)
      refine ⟨by omega, by omega, fun h => h3 (by omega), fun i i1 i2 => ?_⟩
      by_cases z : i = v
      · rw [z]; exact c
      · exact h4 i (by omega) i2
set_option maxHeartbeats 1000000 in
theorem vb_iff {b : Nat → Nat} {n s i : Nat} (hi : i < 7) : wY b n s = ww i ↔ vb b n s = i := by
  obtain ⟨h1, h2, h3, h4⟩ := vbf_ok (P := vP b n s) 7 0
  rw [wY_iff hi]
  unfold vb
  constructor
  · intro h
    rcases Nat.lt_or_ge i (vbf (vP b n s) 7 0) with z | z
    · exact absurd h (h4 i (Nat.zero_le _) z)
    · have h7 := h3 (by omega)
      have e1 := (wY_iff hi).mpr h
      have e2 := (wY_iff (b := b) (n := n) (s := s) (i := vbf (vP b n s) 7 0) (by omega)).mpr h7
      exact congrArg Fin.val (ww_inj ⟨vbf (vP b n s) 7 0, by omega⟩ ⟨i, hi⟩ (e2.symm.trans e1))
  · intro h
    rw [h] at h3
    exact h3 (by omega)
theorem vb_le {b : Nat → Nat} {n s : Nat} : vb b n s ≤ 7 := by
  have := (vbf_ok (P := vP b n s) 7 0).2.1
  unfold vb
  omega
theorem wd_sh {y c : Nat} (hy : y < 2 ^ 50) (hc : c < 256) : (lN y <<< ((8 : Int32).toInt64 &&& 63)) ||| (nI c).toInt64 = lN (y * 256 + c) := by
  rw [nI_l (by omega)]
  apply Int64.toBitVec_inj.mp
  rw [Int64.toBitVec_or, Int64.toBitVec_shiftLeft, show ((8 : Int32).toInt64 &&& 63).toBitVec.smod 64 = 8#64 by decide]
  apply BitVec.eq_of_toNat_eq
  rw [BitVec.toNat_or, BitVec.shiftLeft_eq', BitVec.toNat_shiftLeft]
  have t : ∀ z, z < 2 ^ 63 → (lN z).toBitVec.toNat = z := fun z hz => Nat.mod_eq_of_lt (Nat.lt_of_lt_of_le hz (by decide))
  rw [t y (by omega), t c (by omega), t (y * 256 + c) (by omega), show (8#64).toNat = 8 from rfl, Nat.mod_eq_of_lt (by rw [Nat.shiftLeft_eq]; omega), ← Nat.shiftLeft_add_eq_or_of_lt (by omega), Nat.shiftLeft_eq]
set_option maxHeartbeats 1000000 in
theorem v_word {b : Nat → Nat} {n s : Nat} {τ : gT} {k : Int64 → gT → Prop} (hC : gCm b n τ) (hs : s ≤ n) (h5 : τ.1 10 0 15 = nI s) (h6 : τ.1 10 0 16 = nI (eS b n s)) (h4 : τ.1 10 0 14 = nI (mK (kS b n s))) (h : k (lN (wY b n s)) τ) : wX10_word τ k := by
  have hn := hC.2.1
  have hk : kS b n s ≤ 4 := by unfold kS; split; omega; split; omega; split; split <;> omega; split <;> omega
  obtain ⟨e1, e2, e3⟩ := eS_bd (b := b) hs
  have m2 : nI (mK (kS b n s)) = 2 ↔ kS b n s = 1 := by
    rw [show (2 : Int32) = nI 2 from rfl, nI_eq (by unfold mK; split <;> omega) (by decide)]
    unfold mK
    split <;> omega
  unfold wX10_word
  rw [h5]
  unfold wY at h
  by_cases c : kS b n s = 1 ∧ eS b n s - s < 8
  · rw [if_pos c] at h
    have hl := kS_letters c.1
    have hb : ∀ x, x < eS b n s - s → b (s + x) < 256 := fun x hx => by have := hl (s + x) (by omega) (by omega); omega
    refine gloop (N := eS b n s - s) (fun t j => wX10_word_7 k t (lN (wv b s j)) (nI (s + j)) τ) ?_ ?_
    · unfold wX10_word_7
      rw [h6, show s + (eS b n s - s) = eS b n s by omega]
      exact ⟨fun _ => h, fun z => absurd (nI_le (Nat.le_refl _) (by omega)) z⟩
    · intro t j hj ih
      have hlt := wv_lt (b := b) (s := s) (m := j) (fun x hx => hb x (by omega))
      have hp : 256 ^ j ≤ 256 ^ 6 := Nat.pow_le_pow_right (by decide) (by omega)
      unfold wX10_word_7
      rw [h6, h5, h4, m2, pk_sub e1, nI_clamp (show s + j < 2 ^ 31 by omega), (hC.2.2 (s + j) (by omega)).2, wd_sh (by omega) (hb j hj), nI_1]
      refine ⟨fun z => absurd z (nI_ge (by omega) (by omega)), fun _ => ⟨fun z => absurd c.1 z, fun _ => ⟨fun z => absurd z (nI_ge (b := 8) (by omega) (by decide)), fun _ => ⟨vp_in_nI (by omega) (by decide), ih⟩⟩⟩⟩
  · rw [if_neg c] at h
    refine ⟨1, ?_⟩
    unfold wX10_word_7
    rw [h6, h5, h4, m2, pk_sub e1]
    refine ⟨fun _ => h, fun _ => ⟨fun _ => h, fun c1 => ⟨fun _ => h, fun c2 => ?_⟩⟩⟩
    exact absurd (nI_le (a := 8) (b := eS b n s - s) (by rcases Nat.lt_or_ge (eS b n s - s) 8 with z | z; exact absurd ⟨c1, z⟩ c; exact z) (by omega)) c2
