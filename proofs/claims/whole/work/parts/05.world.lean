/-! THE WORLD: the store as cells of the heap -/
def gv (G : gG) : gAV → Value
  | .inl x => .int x
  | .inr (.inl y) => .long y
  | .inr (.inr q) => if q.1 = 52 then G.2.2.2 else .ref (G.1 q.1 q.2)
def gok : gAV → Prop
  | .inr (.inr q) => q.2 < gN q.1
  | _ => True
def gvs : gSk → Prop
  | [] => True
  | v :: r => gok v ∧ gvs r
def gokO : Option gAV → Prop
  | none => True
  | some v => gok v
def gvl (L : gLo) : Prop := ∀ (i : Nat) (v : gAV), L[i]? = some (some v) → gok v
def gfv (G : gG) (σ : gT) (f i j k : Nat) : Value := match k with
  | 0 => .int (σ.1 f i j)
  | 1 => .int (σ.1 f i j)
  | g + 2 => .ref (G.1 g i)
def gE (G : gG) (σ : gT) (f i : Nat) : va_E := match gA f with
  | none => .inr (f, (List.range (gF f).length).map (fun j => gfv G σ f i j ((gF f).getD j 0)))
  | some (kd, n, g) => .inl (G.2.1 kd, n, match kd with
    | 0 => .inl (σ.1 f i)
    | 1 => .inl (σ.1 f i)
    | 2 => .inr (.inl (σ.2 f i))
    | _ => .inr (.inr (.inr (.inr (fun q => some (G.1 g q))))))
def gC : List (Nat × Nat) := (List.range 39).flatMap (fun f => (List.range (gN f)).map (fun i => (f, i)))
def gW (G : gG) (σ : gT) : va_W := gC.map (fun q => (G.1 q.1 q.2, gE G σ q.1 q.2))
def gTy (G : gG) : List (ClassId × FieldType) := [(G.2.1 0, .int), (G.2.1 1, .byte), (G.2.1 2, .long), (G.2.1 3, .object RX6), (G.2.1 4, .object RX8), (G.2.1 5, .object RX3)]
/-- the addresses are apart, and lie in A -/
def gGok (G : gG) (A : Nat → Prop) : Prop := (∀ q ∈ gC, A (G.1 q.1 q.2)) ∧ ∀ q ∈ gC, ∀ r ∈ gC, G.1 q.1 q.2 = G.1 r.1 r.2 → q = r
theorem gC_nd : gC.Nodup := by decide +kernel
theorem gC_mem {f i : Nat} (hf : f < 39) (hi : i < gN f) : (f, i) ∈ gC := by
  unfold gC
  rw [List.mem_flatMap]
  exact ⟨f, List.mem_range.mpr hf, List.mem_map.mpr ⟨i, List.mem_range.mpr hi, rfl⟩⟩
theorem gC_lt {q : Nat × Nat} (h : q ∈ gC) : q.1 < 39 ∧ q.2 < gN q.1 := by
  unfold gC at h
  obtain ⟨f, hf, h2⟩ := List.mem_flatMap.mp h
  obtain ⟨i, hi, rfl⟩ := List.mem_map.mp h2
  exact ⟨List.mem_range.mp hf, List.mem_range.mp hi⟩
theorem gW_at (G : gG) (σ : gT) {f i : Nat} (hf : f < 39) (hi : i < gN f) : ∃ k : Nat, gC[k]? = some (f, i) ∧ (gW G σ)[k]? = some (G.1 f i, gE G σ f i) := by
  obtain ⟨k, hk⟩ := List.getElem?_of_mem (gC_mem hf hi)
  exact ⟨k, hk, by rw [gW, List.getElem?_map, hk]; rfl⟩
theorem gW_get {G : gG} {σ : gT} {k : Nat} {q : Nat × va_E} (h : (gW G σ)[k]? = some q) : ∃ r, gC[k]? = some r ∧ q = (G.1 r.1 r.2, gE G σ r.1 r.2) := by
  rw [gW, List.getElem?_map] at h
  cases hr : gC[k]? with
  | none => rw [hr] at h; cases h
  | some r => rw [hr] at h; exact ⟨r, rfl, (Option.some.inj h).symm⟩
theorem gC_inj {i j : Nat} {q : Nat × Nat} (h1 : gC[i]? = some q) (h2 : gC[j]? = some q) : i = j := by
  obtain ⟨l1, e1⟩ := List.getElem?_eq_some_iff.mp h1
  obtain ⟨l2, e2⟩ := List.getElem?_eq_some_iff.mp h2
  exact (List.getElem_inj gC_nd).mp (e1.trans e2.symm)
theorem gW_D {G : gG} {A : Nat → Prop} (h : gGok G A) (σ : gT) : va_D A (gW G σ) := by
  refine ⟨fun i j p q hp hq e => ?_, fun k q hk => ?_⟩
  · obtain ⟨r, h1, rfl⟩ := gW_get hp
    obtain ⟨t, h2, rfl⟩ := gW_get hq
    have := h.2 r (List.mem_of_getElem? h1) t (List.mem_of_getElem? h2) e
    subst this
    exact gC_inj h1 h2
  · obtain ⟨r, h1, rfl⟩ := gW_get hk
    exact h.1 r (List.mem_of_getElem? h1)
/-- the world behind a write to one cell -/
theorem gW_set {G : gG} {A : Nat → Prop} (hG : gGok G A) {σ σ' : gT} {f i k : Nat} {e : va_E} {H : Heap} (hk : gC[k]? = some (f, i)) (he : gE G σ' f i = e) (ho : ∀ q : Nat × Nat, q ≠ (f, i) → gE G σ' q.1 q.2 = gE G σ q.1 q.2) (hP : va_P G.2.2.1 gCl ((gW G σ).set k (G.1 f i, e)) H) : va_P G.2.2.1 gCl (gW G σ') H := by
  intro j q hj
  obtain ⟨r, h1, rfl⟩ := gW_get hj
  by_cases hjk : j = k
  · subst hjk
    rw [hk] at h1
    cases h1
    refine hP j _ ?_
    have hl : j < (gW G σ).length := by
      rw [gW, List.length_map]
      exact (List.getElem?_eq_some_iff.mp hk).1
    rw [List.getElem?_set_self hl, he]
  · have hne : r ≠ (f, i) := fun z => hjk (gC_inj h1 (by rw [z]; exact hk))
    refine hP j _ ?_
    rw [List.getElem?_set_ne (Ne.symm hjk), gW, List.getElem?_map, h1, ho r hne]
    rfl
theorem gv_cat {G : gG} (hn : G.2.2.2.category = 1) (v : gAV) : (gv G v).category = gcat v := by
  match v with
  | .inl x => rfl
  | .inr (.inl y) => rfl
  | .inr (.inr q) =>
    show (if q.1 = 52 then G.2.2.2 else Value.ref (G.1 q.1 q.2)).category = 1
    split
    · exact hn
    · rfl
theorem gv_cats {G : gG} (hn : G.2.2.2.category = 1) : ∀ (r : gSk), ((r.map (gv G)).map fun v => v.category).sum = gcats r
  | [] => rfl
  | v :: r => by
    rw [List.map_cons, List.map_cons, List.sum_cons, gv_cats hn r, gv_cat hn v]
    rfl
theorem gv_ref {G : gG} {f i : Nat} (h : ¬ f = 52) : gv G (.inr (.inr (f, i))) = .ref (G.1 f i) := if_neg h
theorem gvs_drop : ∀ (n : Nat) {st : gSk}, gvs st → gvs (st.drop n)
  | 0, _, h => h
  | n + 1, [], _ => trivial
  | n + 1, v :: r, h => gvs_drop n (st := r) h.2
theorem gvs_mem : ∀ {st : gSk}, gvs st ↔ ∀ v ∈ st, gok v
  | [] => ⟨fun _ _ h => (List.not_mem_nil h).elim, fun _ => trivial⟩
  | v :: r => by
    rw [List.forall_mem_cons, ← gvs_mem (st := r)]
    rfl
theorem gvs_take {n : Nat} {st : gSk} (h : gvs st) : gvs (st.take n).reverse := by
  rw [gvs_mem] at h ⊢
  intro v hv
  exact h v (List.mem_of_mem_take (List.mem_reverse.mp hv))
theorem gvs_app {a b : gSk} (h1 : gvs a) (h2 : gvs b) : gvs (a ++ b) := by
  rw [gvs_mem] at h1 h2 ⊢
  intro v hv
  rcases List.mem_append.mp hv with h | h
  · exact h1 v h
  · exact h2 v h
/-! the locals -/
def gLH (G : gG) (ls : Array Slot) (nL : Nat) (L : gLo) : Prop := ls.size = nL ∧ lv_wf ls ∧ L.length = nL ∧ ∀ (i : Nat) (v : gAV), L[i]? = some (some v) → ls[i]? = some (.val (gv G v))
def gpr (G : gG) (L : gLo) : List (Nat × Value) := (List.range L.length).filterMap (fun i => match L[i]? with
  | some (some v) => some (i, gv G v)
  | _ => none)
theorem gpr_mem {G : gG} {L : gLo} {q : Nat × Value} : q ∈ gpr G L ↔ ∃ v, L[q.1]? = some (some v) ∧ q.2 = gv G v := by
  unfold gpr
  rw [List.mem_filterMap]
  constructor
  · rintro ⟨i, -, h⟩
    split at h
    · rename_i v hv
      cases h
      exact ⟨v, hv, rfl⟩
    · cases h
  · rintro ⟨v, h1, h2⟩
    refine ⟨q.1, List.mem_range.mpr (List.getElem?_eq_some_iff.mp h1).1, ?_⟩
    rw [h1]
    show some (q.1, gv G v) = some q
    rw [← h2]
theorem gLH.has {G : gG} {ls : Array Slot} {nL : Nat} {L : gLo} (h : gLH G ls nL L) : lv_has ls nL (gpr G L) := by
  refine ⟨h.1, h.2.1, fun q hq => ?_⟩
  obtain ⟨v, h1, h2⟩ := gpr_mem.mp hq
  rw [h2]
  exact h.2.2.2 q.1 v h1
theorem gk_get {L : gLo} {i j : Nat} {w : gAV} (h : (gkl L i)[j]? = some (some w)) : L[j]? = some (some w) ∧ ¬ (j + 1 = i ∧ gcat w = 2) := by
  cases i with
  | zero => exact ⟨h, fun z => by omega⟩
  | succ k =>
    unfold gkl at h
    dsimp only at h
    split at h
    · rw [List.getElem?_set] at h
      by_cases hk : k = j
      · subst hk
        rw [if_pos rfl] at h
        split at h <;> cases h
      · rw [if_neg hk] at h
        exact ⟨h, fun z => hk (by omega)⟩
    · rename_i hno
      refine ⟨h, fun z => ?_⟩
      have hj : j = k := by omega
      subst hj
      match w, z.2, h with
      | .inl _, z2, _ => cases z2
      | .inr (.inl y), _, h => exact hno y h
      | .inr (.inr _), z2, _ => cases z2
theorem gk_len {L : gLo} {i : Nat} : (gkl L i).length = L.length := by
  cases i with
  | zero => rfl
  | succ k =>
    unfold gkl
    dsimp only
    split
    · rw [List.length_set]
    · rfl
theorem gst_1 {L : gLo} {i : Nat} {v : gAV} (hv : gcat v = 1) : gst L i v = (gkl L i).set i (some v) := by
  match v, hv with
  | .inl _, _ => rfl
  | .inr (.inl _), h => cases h
  | .inr (.inr _), _ => rfl
theorem gst_len (L : gLo) (i : Nat) (v : gAV) : (gst L i v).length = L.length := by
  match v with
  | .inl x => show ((gkl L i).set i (some (.inl x))).length = _; rw [List.length_set, gk_len]
  | .inr (.inl x) => show (((gkl L i).set i (some (.inr (.inl x)))).set (i + 1) none).length = _; rw [List.length_set, List.length_set, gk_len]
  | .inr (.inr x) => show ((gkl L i).set i (some (.inr (.inr x)))).length = _; rw [List.length_set, gk_len]
theorem gst_get1 {L : gLo} {i j : Nat} {v w : gAV} (hv : gcat v = 1) (h : (gst L i v)[j]? = some (some w)) : (j = i ∧ w = v) ∨ (j ≠ i ∧ L[j]? = some (some w) ∧ ¬ (j + 1 = i ∧ gcat w = 2)) := by
  rw [gst_1 hv, List.getElem?_set] at h
  by_cases hij : i = j
  · subst hij
    rw [if_pos rfl] at h
    split at h
    · cases h
      exact Or.inl ⟨rfl, rfl⟩
    · cases h
  · rw [if_neg hij] at h
    exact Or.inr ⟨Ne.symm hij, gk_get h⟩
theorem gst_get2 {L : gLo} {i j : Nat} {y : Int64} {w : gAV} (h : (gst L i (.inr (.inl y)))[j]? = some (some w)) : (j = i ∧ w = .inr (.inl y)) ∨ (j ≠ i ∧ j ≠ i + 1 ∧ L[j]? = some (some w) ∧ ¬ (j + 1 = i ∧ gcat w = 2)) := by
  have h : (((gkl L i).set i (some (.inr (.inl y)))).set (i + 1) none)[j]? = some (some w) := h
  rw [List.getElem?_set] at h
  by_cases h1 : i + 1 = j
  · rw [if_pos h1] at h
    split at h <;> cases h
  · rw [if_neg h1, List.getElem?_set] at h
    by_cases hij : i = j
    · subst hij
      rw [if_pos rfl] at h
      split at h
      · cases h
        exact Or.inl ⟨rfl, rfl⟩
      · cases h
    · rw [if_neg hij] at h
      exact Or.inr ⟨Ne.symm hij, Ne.symm h1, gk_get h⟩
theorem gLH.st1 {G : gG} (hn : G.2.2.2.category = 1) {ls ls' : Array Slot} {nL : Nat} {L : gLo} (h : gLH G ls nL L) {i : Nat} {v : gAV} (hv : gcat v = 1) (h' : lv_has ls' nL ((i, gv G v) :: (gpr G L).filter (fun q => !(q.1 == i) && !(q.1 + 1 == i && q.2.category == 2)))) : gLH G ls' nL (gst L i v) := by
  refine ⟨h'.1, h'.2.1, (gst_len L i v).trans h.2.2.1, fun j w hj => ?_⟩
  rcases gst_get1 hv hj with ⟨rfl, rfl⟩ | ⟨h1, h2, h3⟩
  · exact h'.2.2 (j, gv G w) List.mem_cons_self
  · refine h'.2.2 (j, gv G w) (List.mem_cons_of_mem _ (List.mem_filter.mpr ⟨gpr_mem.mpr ⟨w, h2, rfl⟩, ?_⟩))
    rw [gv_cat hn]
    simp only [Bool.and_eq_true, Bool.not_eq_true', beq_eq_false_iff_ne, ne_eq, Bool.and_eq_false_iff]
    exact ⟨h1, by by_cases z : j + 1 = i <;> simp_all⟩
theorem gLH.st2 {G : gG} (hn : G.2.2.2.category = 1) {ls ls' : Array Slot} {nL : Nat} {L : gLo} (h : gLH G ls nL L) {i : Nat} {y : Int64} (h' : lv_has ls' nL ((i, Value.long y) :: (gpr G L).filter (fun q => !(q.1 == i) && (!(q.1 == i + 1) && !(q.1 + 1 == i && q.2.category == 2))))) : gLH G ls' nL (gst L i (.inr (.inl y))) := by
  refine ⟨h'.1, h'.2.1, (gst_len L i _).trans h.2.2.1, fun j w hj => ?_⟩
  rcases gst_get2 hj with ⟨rfl, rfl⟩ | ⟨h1, h0, h2, h3⟩
  · exact h'.2.2 (j, Value.long y) List.mem_cons_self
  · refine h'.2.2 (j, gv G w) (List.mem_cons_of_mem _ (List.mem_filter.mpr ⟨gpr_mem.mpr ⟨w, h2, rfl⟩, ?_⟩))
    rw [gv_cat hn]
    simp only [Bool.and_eq_true, Bool.not_eq_true', beq_eq_false_iff_ne, ne_eq, Bool.and_eq_false_iff]
    exact ⟨h1, h0, by by_cases z : j + 1 = i <;> simp_all⟩
theorem gvl_st {L : gLo} {i : Nat} {v : gAV} (h : gvl L) (hv : gok v) : gvl (gst L i v) := by
  intro j w hj
  match v, hv, hj with
  | .inl x, hv, hj =>
    rcases gst_get1 (v := .inl x) rfl hj with ⟨-, rfl⟩ | ⟨-, h2, -⟩
    · exact hv
    · exact h j w h2
  | .inr (.inl y), hv, hj =>
    rcases gst_get2 hj with ⟨-, rfl⟩ | ⟨-, -, h2, -⟩
    · exact hv
    · exact h j w h2
  | .inr (.inr q), hv, hj =>
    rcases gst_get1 (v := .inr (.inr q)) rfl hj with ⟨-, rfl⟩ | ⟨-, h2, -⟩
    · exact hv
    · exact h j w h2
