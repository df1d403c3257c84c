/-! PURE: the class's reading of an act, and of all -/
theorem pAc_eq {b : Nat → Nat} {n p : Nat} : pAc b n p = if vb b n (tS b n p) = 7 then .inl (1, tS b n p) else (match paS b n (mo (vb b n (tS b n p))) (eS b n (tS b n p)) with
  | .inl f => .inl f
  | .inr r => .inr (vb b n (tS b n p), r.1, r.2)) := rfl
def gCA (b : Nat → Nat) (n p : Nat) (τ : gT) : Prop := gCb b n τ ∧ p ≤ n ∧ τ.1 7 0 2 = nI (tS b n p) ∧ τ.1 7 0 3 = nI (eS b n (tS b n p)) ∧ τ.1 7 0 4 = nI (kS b n (tS b n p))
set_option maxHeartbeats 1000000 in
theorem u_readAct {b : Nat → Nat} {n a p : Nat} {τ : gT} {k : Int32 → gT → Prop} (ha : a < 80) (hA : gCA b n p τ) (ha2 : τ.1 5 0 2 = nI a) (hf : ∀ f s τ', pAc b n p = .inl (f, s) → gFC τ τ' → τ'.1 5 0 3 = nI f → τ'.1 5 0 4 = nI s → k 0 τ') (ho : ∀ v vs q τ', pAc b n p = .inr (v, vs, q) → gFC τ τ' → τ'.1 5 0 2 = nI a → τ'.1 7 0 3 = nI q → (∀ c, c < a → τ'.1 19 0 c = τ.1 19 0 c) → τ'.1 19 0 a = nI v → (∀ c, c < a * 5 → τ'.1 20 0 c = τ.1 20 0 c) → (∀ i, i < vs.length → τ'.1 20 0 (a * 5 + i) = nI (vs.getD i 0)) → k 1 τ') : wX5_readAct τ k := by
  obtain ⟨hC, hp, h2, h3, h4⟩ := hA
  have tb := tS_bd (b := b) hp
  have eb := eS_bd (b := b) tb.2
  have hv := vb_le (b := b) (n := n) (s := tS b n p)
  unfold wX5_readAct
  refine u_verb hC tb.2 h2 h3 h4 ?_
  rw [show (7 : Int32) = nI 7 from rfl, nI_eq (by omega) (by decide), ha2, nI_clamp (show a < 2 ^ 31 by omega)]
  simp only [pAc_eq] at hf ho
  refine ⟨fun c => ⟨vp_in_nI ha (by decide), ?_⟩, fun c => u_faulty (x := 1) h2 (fun τ' g1 g2 g3 => ⟨Or.inl rfl, ?_⟩)⟩
  · simp only [if_neg c] at hf ho
    generalize vb b n (tS b n p) = v at *
    have hC1 : gCb b n (gsu τ 19 0 a (nI v)) := hC.fc (gFC.rf.su (by decide))
    have h31 : (gsu τ 19 0 a (nI v)).1 7 0 3 = nI (eS b n (tS b n p)) := by rw [gsu_f (by decide)]; exact h3
    have ha1 : (gsu τ 19 0 a (nI v)).1 5 0 2 = nI a := by rw [gsu_f (by decide)]; exact ha2
    have hf1 : ∀ f s τ', paS b n (mo v) (eS b n (tS b n p)) = .inl (f, s) → gFC (gsu τ 19 0 a (nI v)) τ' → τ'.1 5 0 3 = nI f → τ'.1 5 0 4 = nI s → k 0 τ' := fun f s τ' g1 g2 g3 g4 => by
      rw [g1] at hf
      exact hf f s τ' rfl ((gFC.rf.su (by decide)).tr g2) g3 g4
    have ho1 : ∀ vs q τ', paS b n (mo v) (eS b n (tS b n p)) = .inr (vs, q) → gFC (gsu τ 19 0 a (nI v)) τ' → τ'.1 5 0 2 = nI a → τ'.1 7 0 3 = nI q → τ'.1 19 = (gsu τ 19 0 a (nI v)).1 19 → (∀ c, c < a * 5 → τ'.1 20 0 c = (gsu τ 19 0 a (nI v)).1 20 0 c) → (∀ i, i < vs.length → τ'.1 20 0 (a * 5 + i) = nI (vs.getD i 0)) → k 1 τ' := fun vs q τ' g1 g2 g3 g4 g5 g6 g7 => by
      rw [g1] at ho
      refine ho v vs q τ' rfl ((gFC.rf.su (by decide)).tr g2) g3 g4 (fun c hc => ?_) ?_ (fun c hc => ?_) g7
      · rw [g5, gsu_s (by omega)]
      · rw [g5, gsu_e]
      · rw [g6 c hc, gsu_f (by decide)]
    unfold wX5_mostOf
    rw [nI_toInt (show v < 2 ^ 31 by omega)]
    rcases (show v = 0 ∨ v = 1 ∨ v = 2 ∨ v = 3 ∨ v = 4 ∨ v = 5 ∨ v = 6 by omega) with rfl | rfl | rfl | rfl | rfl | rfl | rfl
    · have L := u_nums_f40 (k := k) ha _ _ hC1 eb.2.1 h31 ha1 hf1 ho1
      refine ⟨fun z => ?_, fun z => ?_, fun z => ?_, fun z => ?_, fun z => ?_, fun z => ?_, trivial⟩ <;> first | exact Or.inl ⟨rfl, L⟩ | omega
    · have L := u_nums_f40 (k := k) ha _ _ hC1 eb.2.1 h31 ha1 hf1 ho1
      refine ⟨fun z => ?_, fun z => ?_, fun z => ?_, fun z => ?_, fun z => ?_, fun z => ?_, trivial⟩ <;> first | exact Or.inl ⟨rfl, L⟩ | omega
    · have L := u_nums_f41 (k := k) ha _ _ hC1 eb.2.1 h31 ha1 hf1 ho1
      refine ⟨fun z => ?_, fun z => ?_, fun z => ?_, fun z => ?_, fun z => ?_, fun z => ?_, trivial⟩ <;> first | exact Or.inr (Or.inl ⟨rfl, L⟩) | omega
    · have L := u_nums_f42 (k := k) ha _ _ hC1 eb.2.1 h31 ha1 hf1 ho1
      refine ⟨fun z => ?_, fun z => ?_, fun z => ?_, fun z => ?_, fun z => ?_, fun z => ?_, trivial⟩ <;> first | exact Or.inr (Or.inr (Or.inl ⟨rfl, L⟩)) | omega
    · have L := u_nums_f43 (k := k) ha _ _ hC1 eb.2.1 h31 ha1 hf1 ho1
      refine ⟨fun z => ?_, fun z => ?_, fun z => ?_, fun z => ?_, fun z => ?_, fun z => ?_, trivial⟩ <;> first | exact Or.inr (Or.inr (Or.inr (Or.inl ⟨rfl, L⟩))) | omega
    · have L := u_nums_f44 (k := k) ha _ _ hC1 eb.2.1 h31 ha1 hf1 ho1
      refine ⟨fun z => ?_, fun z => ?_, fun z => ?_, fun z => ?_, fun z => ?_, fun z => ?_, trivial⟩ <;> first | exact Or.inr (Or.inr (Or.inr (Or.inr ⟨rfl, L⟩))) | omega
    · have L := u_nums_f44 (k := k) ha _ _ hC1 eb.2.1 h31 ha1 hf1 ho1
      refine ⟨fun z => ?_, fun z => ?_, fun z => ?_, fun z => ?_, fun z => ?_, fun z => ?_, trivial⟩ <;> first | exact Or.inr (Or.inr (Or.inr (Or.inr ⟨rfl, L⟩))) | omega
  · simp only [if_pos c] at hf
    exact hf 1 _ τ' rfl g1 g2 g3
theorem pAll_s {b : Nat → Nat} {n m p : Nat} : pAll b n (m + 1) p = if kS b n (tS b n p) = 0 then .inr [] else (match pAc b n p with
    | .inl f => .inl f
    | .inr r => (match pAll b n m r.2.2 with
      | .inl f => .inl f
      | .inr l => .inr ((r.1, r.2.1) :: l))) := rfl
def gAc (a : Nat) (l : List (Nat × List Nat)) (τ : gT) : Prop := ∀ i, i < l.length → τ.1 19 0 (a + i) = nI (l.getD i (0, [])).1 ∧ ∀ j, j < (l.getD i (0, [])).2.length → τ.1 20 0 ((a + i) * 5 + j) = nI ((l.getD i (0, [])).2.getD j 0)
set_option maxHeartbeats 1000000 in
theorem u_readAll13 {b : Nat → Nat} {n : Nat} {k : Int32 → gT → Prop} : ∀ (m a p : Nat) (τ : gT), a + m = 80 → n ≤ p + 5 * m → gCA b n p τ → τ.1 5 0 2 = nI a → (∀ f s τ', pAll b n (m + 1) p = .inl (f, s) → gFC τ τ' → τ'.1 5 0 3 = nI f → τ'.1 5 0 4 = nI s → k 0 τ') → (∀ l τ', pAll b n (m + 1) p = .inr l → gFC τ τ' → τ'.1 5 0 2 = nI (a + l.length) → a + l.length ≤ 80 → (∀ c, c < a → τ'.1 19 0 c = τ.1 19 0 c) → (∀ c, c < a * 5 → τ'.1 20 0 c = τ.1 20 0 c) → gAc a l τ' → k 1 τ') → wX5_readAll_13 k (m + 1) τ := by
  intro m
  induction m with
  | zero =>
    intro a p τ ham hnp hA ha2 hf ho
    have tb := tS_bd (b := b) hA.2.1
    have hz : kS b n (tS b n p) = 0 := if_pos (by omega)
    simp only [pAll_s, if_pos hz] at ho
    unfold wX5_readAll_13
    rw [ha2, show a = 80 by omega]
    refine ⟨fun _ => ⟨Or.inr rfl, ho [] τ rfl gFC.rf ?_ (by rw [List.length_nil]; omega) (fun _ _ => rfl) (fun _ _ => rfl) (fun i hi => absurd hi (Nat.not_lt_zero i))⟩, fun z => absurd (by decide) z⟩
    rw [List.length_nil, Nat.add_zero]
    exact ha2
  | succ m ih =>
    intro a p τ ham hnp hA ha2 hf ho
    have kl := kS_le (b := b) (n := n) (s := tS b n p)
    rw [pAll_s] at hf ho
    by_cases c : kS b n (tS b n p) = 0
    · simp only [if_pos c] at ho
      unfold wX5_readAll_13
      rw [ha2, hA.2.2.2.2, c]
      have hk : k 1 τ := ho [] τ rfl gFC.rf (by rw [List.length_nil, Nat.add_zero]; exact ha2) (by rw [List.length_nil]; omega) (fun _ _ => rfl) (fun _ _ => rfl) (fun i hi => absurd hi (Nat.not_lt_zero i))
      exact ⟨fun _ => ⟨Or.inr rfl, hk⟩, fun _ => ⟨fun _ => ⟨Or.inr rfl, hk⟩, fun z => absurd rfl z⟩⟩
    · simp only [if_neg c] at hf ho
      have c0 : ¬ nI (kS b n (tS b n p)) = 0 := nI_ne0 (by omega) (by omega)
      cases hr : pAc b n p with
      | inl f =>
        rw [hr] at hf
        unfold wX5_readAll_13
        refine ⟨fun z => absurd z (by rw [ha2]; exact nI_ge (b := 80) (by omega) (by decide)), fun _ => ⟨fun z => absurd z (by rw [hA.2.2.2.2]; exact c0), fun _ => u_readAct (by omega) hA ha2 (fun f2 s τ' g1 g2 g3 g4 => ⟨fun z => absurd rfl z, fun _ => ⟨Or.inl rfl, ?_⟩⟩) (fun v vs q τ' g1 => ?_)⟩⟩
        · rw [hr] at g1
          injection g1 with g1
          subst g1
          exact hf f2 s τ' rfl g2 g3 g4
        · rw [hr] at g1; cases g1
      | inr r =>
        obtain ⟨v, vs, q⟩ := r
        rw [hr] at hf ho
        dsimp only at hf ho
        obtain ⟨p1, p2, p3, p4, p5⟩ := pAc_ok hA.2.1 hr
        have key : ∀ τ', gFC τ τ' → τ'.1 5 0 2 = nI a → τ'.1 7 0 3 = nI q → (∀ c, c < a → τ'.1 19 0 c = τ.1 19 0 c) → τ'.1 19 0 a = nI v → (∀ c, c < a * 5 → τ'.1 20 0 c = τ.1 20 0 c) → (∀ i, i < vs.length → τ'.1 20 0 (a * 5 + i) = nI (vs.getD i 0)) → ∀ τ1, gF7 (gsu τ' 5 0 2 (nI (a + 1))) τ1 → τ1.1 7 0 2 = nI (tS b n q) → τ1.1 7 0 3 = nI (eS b n (tS b n q)) → τ1.1 7 0 4 = nI (kS b n (tS b n q)) → wX5_readAll_13 k (m + 1) τ1 := by
          intro τ' g1 g2 g3 g4 g5 g6 g7 τ1 f1 f2 f3 f4
          have fr : gFC τ τ1 := (g1.su (Or.inl rfl)).tr (gFC.of f1)
          have e19 : τ1.1 19 = τ'.1 19 := (f1.1 19 (by decide)).trans (gsu_fam (by decide))
          have e20 : τ1.1 20 = τ'.1 20 := (f1.1 20 (by decide)).trans (gsu_fam (by decide))
          refine ih (a + 1) q τ1 (by omega) (by omega) ⟨hA.1.fc fr, p3, f2, f3, f4⟩ (by rw [f1.1 5 (by decide), gsu_e]) (fun f s τ2 k1 k2 k3 k4 => ?_) (fun l τ2 k1 k2 k3 k4 k5 k6 k7 => ?_)
          · rw [k1] at hf
            exact hf f s τ2 rfl (fr.tr k2) k3 k4
          · rw [k1] at ho
            refine ho ((v, vs) :: l) τ2 rfl (fr.tr k2) (by rw [List.length_cons, k3]; congr 1; omega) (by rw [List.length_cons]; omega) (fun c hc => ?_) (fun c hc => ?_) (fun i hi => ?_)
            · rw [k5 c (by omega), e19]
              exact g4 c hc
            · rw [k6 c (by omega), e20]
              exact g6 c hc
            · cases i with
              | zero =>
                refine ⟨?_, fun j hj => ?_⟩
                · rw [Nat.add_zero, k5 a (by omega), e19]
                  exact g5
                · have hl := (paS_ok _ _ _ _ (eS_bd (b := b) (tS_bd (b := b) hA.2.1).2).2.1 p5).2.2.1
                  have m5 : ∀ i : Fin 7, (mo i).length ≤ 5 := by decide
                  have m6 := m5 ⟨v, p2⟩
                  dsimp only at m6
                  have hj : j < vs.length := hj
                  rw [Nat.add_zero, k6 (a * 5 + j) (by omega), e20]
                  exact g7 j hj
              | succ i =>
                rw [List.getD_cons_succ]
                have := k7 i (by rw [List.length_cons] at hi; omega)
                rw [show a + 1 + i = a + (i + 1) by omega] at this
                exact this
        unfold wX5_readAll_13
        refine ⟨fun z => absurd z (by rw [ha2]; exact nI_ge (b := 80) (by omega) (by decide)), fun _ => ⟨fun z => absurd z (by rw [hA.2.2.2.2]; exact c0), fun _ => u_readAct (by omega) hA ha2 (fun f2 s τ' g1 => ?_) (fun v2 vs2 q2 τ' g1 g2 g3 g4 g5 g6 g7 g8 => ⟨fun _ => ?_, fun z => absurd z (by decide)⟩)⟩⟩
        · rw [hr] at g1; cases g1
        · rw [hr] at g1
          injection g1 with g1
          injection g1 with g1 ga
          injection ga with ga gb
          subst g1 ga gb
          rw [g3, nI_1]
          exact u_next (b := b) (n := n) (p := q) (hA.1.fc (g2.su (Or.inl rfl))) p3 (by rw [gsu_f (by decide)]; exact g4) (fun τ1 f1 f2 f3 f4 _ => key τ' g2 g3 g4 g5 g6 g7 g8 τ1 f1 f2 f3 f4)
theorem u_readAll {b : Nat → Nat} {n : Nat} {τ : gT} {k : Int32 → gT → Prop} (hC : gCb b n τ) (hf : ∀ f s τ', pAll b n 81 0 = .inl (f, s) → gFC τ τ' → τ'.1 5 0 3 = nI f → τ'.1 5 0 4 = nI s → k 0 τ') (ho : ∀ l τ', pAll b n 81 0 = .inr l → gFC τ τ' → τ'.1 5 0 2 = nI l.length → l.length ≤ 80 → gAc 0 l τ' → k 1 τ') : wX5_readAll τ k := by
  unfold wX5_readAll wX7_rewind
  have f0 : gFC τ (gsu (gsu τ 5 0 2 0) 7 0 3 0) := (gFC.rf.su (Or.inl rfl)).tr (gFC.of (gF7.rf.su (by decide)))
  refine u_next (b := b) (n := n) (p := 0) (hC.fc f0) (Nat.zero_le _) gsu_e (fun τ1 f1 f2 f3 f4 _ => ⟨81, ?_⟩)
  have fr : gFC τ τ1 := f0.tr (gFC.of f1)
  have hn := hC.2.1
  refine u_readAll13 (b := b) (n := n) 80 0 0 τ1 rfl (by omega) ⟨hC.fc fr, Nat.zero_le _, f2, f3, f4⟩ ?_ (fun f s τ' g1 g2 g3 g4 => hf f s τ' g1 (fr.tr g2) g3 g4) (fun l τ' g1 g2 g3 g4 g5 g6 g7 => ho l τ' g1 (fr.tr g2) (by rw [g3, Nat.zero_add]) (by omega) g7)
  rw [f1.1 5 (by decide), gsu_f (by decide), gsu_e]
  rfl
