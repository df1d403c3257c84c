/-! GEOMETRY: the cells behind the two constructors, as the abstract machine's store -/
def cAd (x y : Nat) (o : Nat → Nat × List Nat) (ar : Nat → Nat) (l6 l8 l3 : List (Nat × List Nat)) (v : List Nat) (st adK adV : Nat → Nat) : Nat → Nat → Nat := fun f i => match f with
  | 0 => (o 0).1
  | 1 => (o 1).1
  | 2 => (o 2).1
  | 3 => (l3.getD i (0, [])).1
  | 4 => (o 4).1
  | 5 => (o 5).1
  | 6 => (l6.getD i (0, [])).1
  | 7 => (o 7).1
  | 8 => (l8.getD i (0, [])).1
  | 9 => x
  | 10 => y
  | 11 => (o 0).2.getD 0 0
  | 12 => (o 1).2.getD 0 0
  | 13 => (o 1).2.getD 1 0
  | 14 => (o 2).2.getD 0 0
  | 15 => (o 2).2.getD 1 0
  | 16 => (o 2).2.getD 2 0
  | 17 => (l3.getD i (0, [])).2.getD 0 0
  | 18 => (o 4).2.getD 0 0
  | 19 => (o 5).2.getD 0 0
  | 20 => (o 5).2.getD 1 0
  | 21 => (l6.getD i (0, [])).2.getD 0 0
  | 22 => (o 7).2.getD 0 0
  | 23 => (l8.getD i (0, [])).2.getD 0 0
  | 24 => (l8.getD i (0, [])).2.getD 1 0
  | 25 => ar 0
  | 26 => ar 1
  | 27 => ar 2
  | 28 => v.getD 0 0
  | 29 => v.getD 1 0
  | 30 => v.getD 2 0
  | 31 => v.getD 3 0
  | 32 => v.getD 4 0
  | 33 => v.getD 5 0
  | 34 => v.getD 6 0
  | 35 => v.getD 7 0
  | 36 => v.getD 8 0
  | 37 => v.getD 9 0
  | 38 => v.getD 10 0
  | 50 => adK i
  | 51 => adV i
  | f => st f
def cS0 : gT := (fun f _ j => match f with
  | 6 => (match j with
    | 1 => -1
    | _ => 0)
  | 28 => -1
  | _ => 0, fun _ _ _ => 0)
theorem gR_0 : gR cS0 := by
  have g0 : ∀ p q, q < 16 → gpg cS0 p q = 0 := fun p q hq => gpg_0 hq rfl
  refine ⟨fun s hs => ⟨rfl, Or.inl rfl, fun h => absurd rfl h, fun j hj => rfl⟩, fun w hw q hq => ⟨rfl, rfl, (show -1000000 ≤ (0 : Int32).toInt ∧ (0 : Int32).toInt ≤ 1000000 from by decide), (show -1000000 ≤ (0 : Int32).toInt ∧ (0 : Int32).toInt ≤ 1000000 from by decide)⟩, fun p hp => ⟨rfl, ⟨0, by decide, rfl⟩, fun q hq => ⟨(g0 p q hq).symm, Or.inr ⟨0, by decide, g0 p q hq⟩⟩, ⟨0, by decide, rfl⟩, fun q hq => by rw [g0 p q hq]; rfl⟩, ⟨0, by decide, rfl, rfl, fun q hq => absurd hq (Nat.not_lt_zero q)⟩, ⟨0, by decide, rfl, rfl, fun q hq => absurd hq (Nat.not_lt_zero q)⟩, rfl, rfl⟩
theorem arrV_cg {cA : ClassId} {n : Nat} {f g : Nat → Value} (h : ∀ j, j < n → f j = g j) : arrV cA n f = arrV cA n g := by
  have e : (fun j : Fin n => f j.val) = fun j : Fin n => g j.val := funext fun j => h j.val j.isLt
  unfold arrV
  rw [e]
theorem at_i {D : va_G} {cl : List vw_C} {a n : Nat} {cA : ClassId} {f g : Nat → Int32} {H : Heap} (hfg : ∀ j, j < n → f j = g j) (h : va_at D cl (a, .inl (cA, n, .inl f)) H) : va_at D cl (a, .inl (cA, n, .inl g)) H := by
  have h : H[a]? = some (arrV cA n (fun j => .int (f j))) := h
  show H[a]? = some (arrV cA n (fun j => .int (g j)))
  rw [h, arrV_cg (fun j hj => by rw [hfg j hj])]
theorem at_q {D : va_G} {cl : List vw_C} {a n : Nat} {cA : ClassId} {f g : Nat → Option Nat} {H : Heap} (hfg : ∀ j, j < n → f j = g j) (h : va_at D cl (a, .inl (cA, n, .inr (.inr (.inr (.inr f))))) H) : va_at D cl (a, .inl (cA, n, .inr (.inr (.inr (.inr g))))) H := by
  have h : H[a]? = some (arrV cA n (fun j => va_rf (f j))) := h
  show H[a]? = some (arrV cA n (fun j => va_rf (g j)))
  rw [h, arrV_cg (fun j hj => by rw [hfg j hj])]
def cPSC : List (Nat × Nat × Nat) := [(18, 0, 0), (4, 1, 0), (14, 2, 0), (60, 3, 0), (62, 3, 1), (64, 3, 2), (66, 3, 3), (68, 3, 4), (70, 3, 5), (12, 4, 0), (9, 5, 0), (20, 6, 0), (22, 6, 1), (24, 6, 2), (26, 6, 3), (28, 6, 4), (30, 6, 5), (32, 6, 6), (34, 6, 7), (7, 7, 0), (36, 8, 0), (39, 8, 1), (42, 8, 2), (45, 8, 3), (48, 8, 4), (51, 8, 5), (54, 8, 6), (57, 8, 7), (0, 9, 0), (72, 10, 0), (19, 11, 0), (5, 12, 0), (6, 13, 0), (15, 14, 0), (16, 15, 0), (17, 16, 0), (61, 17, 0), (63, 17, 1), (65, 17, 2), (67, 17, 3), (69, 17, 4), (71, 17, 5), (13, 18, 0), (10, 19, 0), (11, 20, 0), (21, 21, 0), (23, 21, 1), (25, 21, 2), (27, 21, 3), (29, 21, 4), (31, 21, 5), (33, 21, 6), (35, 21, 7), (8, 22, 0), (37, 23, 0), (40, 23, 1), (43, 23, 2), (46, 23, 3), (49, 23, 4), (52, 23, 5), (55, 23, 6), (58, 23, 7), (38, 24, 0), (41, 24, 1), (44, 24, 2), (47, 24, 3), (50, 24, 4), (53, 24, 5), (56, 24, 6), (59, 24, 7), (1, 25, 0), (2, 26, 0), (3, 27, 0), (73, 28, 0), (74, 29, 0), (75, 30, 0), (76, 31, 0), (77, 32, 0), (78, 33, 0), (79, 34, 0), (80, 35, 0), (81, 36, 0), (82, 37, 0), (83, 38, 0)]
theorem cPSC_gC : gC = cPSC.map Prod.snd := by decide +kernel
theorem cPSC_inj : ∀ z ∈ cPSC, ∀ w ∈ cPSC, z.1 = w.1 → z = w := by decide +kernel
set_option maxHeartbeats 8000000 in
set_option maxRecDepth 100000 in
theorem g_at {x y : Nat} {o : Nat → Nat × List Nat} {ar : Nat → Nat} {s0 s1 s2 s3 s4 s5 s6 s7 w0 w1 w2 w3 w4 w5 w6 w7 p0 p1 p2 p3 p4 p5 : Nat × List Nat} {v : List Nat} {st adK adV : Nat → Nat} {K : Nat → ClassId} {D : va_G} {fv : Value} : ∀ z ∈ cPSC, ∃ e : va_E, (cw9 K x (o, ar, fun k => if k = 6 then [s0, s1, s2, s3, s4, s5, s6, s7] else if k = 8 then [w0, w1, w2, w3, w4, w5, w6, w7] else [p0, p1, p2, p3, p4, p5]) ++ cwX10 K y v)[z.1]? = some (cAd x y o ar [s0, s1, s2, s3, s4, s5, s6, s7] [w0, w1, w2, w3, w4, w5, w6, w7] [p0, p1, p2, p3, p4, p5] v st adK adV z.2.1 z.2.2, e) ∧ ∀ H, va_at D gCl (cAd x y o ar [s0, s1, s2, s3, s4, s5, s6, s7] [w0, w1, w2, w3, w4, w5, w6, w7] [p0, p1, p2, p3, p4, p5] v st adK adV z.2.1 z.2.2, e) H → va_at D gCl (cAd x y o ar [s0, s1, s2, s3, s4, s5, s6, s7] [w0, w1, w2, w3, w4, w5, w6, w7] [p0, p1, p2, p3, p4, p5] v st adK adV z.2.1 z.2.2, gE (cAd x y o ar [s0, s1, s2, s3, s4, s5, s6, s7] [w0, w1, w2, w3, w4, w5, w6, w7] [p0, p1, p2, p3, p4, p5] v st adK adV, K, D, fv) cS0 z.2.1 z.2.2) H := by
  unfold cPSC
  refine List.forall_mem_cons.mpr ⟨⟨_, rfl, fun _ h => h⟩, ?_⟩
  refine List.forall_mem_cons.mpr ⟨⟨_, rfl, fun _ h => h⟩, ?_⟩
  refine List.forall_mem_cons.mpr ⟨⟨_, rfl, fun _ h => h⟩, ?_⟩
  refine List.forall_mem_cons.mpr ⟨⟨_, rfl, fun _ h => h⟩, ?_⟩
  refine List.forall_mem_cons.mpr ⟨⟨_, rfl, fun _ h => h⟩, ?_⟩
  refine List.forall_mem_cons.mpr ⟨⟨_, rfl, fun _ h => h⟩, ?_⟩
  refine List.forall_mem_cons.mpr ⟨⟨_, rfl, fun _ h => h⟩, ?_⟩
  refine List.forall_mem_cons.mpr ⟨⟨_, rfl, fun _ h => h⟩, ?_⟩
  refine List.forall_mem_cons.mpr ⟨⟨_, rfl, fun _ h => h⟩, ?_⟩
  refine List.forall_mem_cons.mpr ⟨⟨_, rfl, fun _ h => h⟩, ?_⟩
  refine List.forall_mem_cons.mpr ⟨⟨_, rfl, fun _ h => h⟩, ?_⟩
  refine List.forall_mem_cons.mpr ⟨⟨_, rfl, fun _ h => h⟩, ?_⟩
  refine List.forall_mem_cons.mpr ⟨⟨_, rfl, fun _ h => h⟩, ?_⟩
  refine List.forall_mem_cons.mpr ⟨⟨_, rfl, fun _ h => h⟩, ?_⟩
  refine List.forall_mem_cons.mpr ⟨⟨_, rfl, fun _ h => h⟩, ?_⟩
  refine List.forall_mem_cons.mpr ⟨⟨_, rfl, fun _ h => h⟩, ?_⟩
  refine List.forall_mem_cons.mpr ⟨⟨_, rfl, fun _ h => h⟩, ?_⟩
  refine List.forall_mem_cons.mpr ⟨⟨_, rfl, fun _ h => h⟩, ?_⟩
  refine List.forall_mem_cons.mpr ⟨⟨_, rfl, fun _ h => h⟩, ?_⟩
  refine List.forall_mem_cons.mpr ⟨⟨_, rfl, fun _ h => h⟩, ?_⟩
  refine List.forall_mem_cons.mpr ⟨⟨_, rfl, fun _ h => h⟩, ?_⟩
  refine List.forall_mem_cons.mpr ⟨⟨_, rfl, fun _ h => h⟩, ?_⟩
  refine List.forall_mem_cons.mpr ⟨⟨_, rfl, fun _ h => h⟩, ?_⟩
  refine List.forall_mem_cons.mpr ⟨⟨_, rfl, fun _ h => h⟩, ?_⟩
  refine List.forall_mem_cons.mpr ⟨⟨_, rfl, fun _ h => h⟩, ?_⟩
  refine List.forall_mem_cons.mpr ⟨⟨_, rfl, fun _ h => h⟩, ?_⟩
  refine List.forall_mem_cons.mpr ⟨⟨_, rfl, fun _ h => h⟩, ?_⟩
  refine List.forall_mem_cons.mpr ⟨⟨_, rfl, fun _ h => h⟩, ?_⟩
  refine List.forall_mem_cons.mpr ⟨⟨_, rfl, fun _ h => h⟩, ?_⟩
  refine List.forall_mem_cons.mpr ⟨⟨_, rfl, fun _ h => h⟩, ?_⟩
  refine List.forall_mem_cons.mpr ⟨⟨_, rfl, fun _ h => h⟩, ?_⟩
  refine List.forall_mem_cons.mpr ⟨⟨_, rfl, fun _ h => h⟩, ?_⟩
  refine List.forall_mem_cons.mpr ⟨⟨_, rfl, fun _ h => h⟩, ?_⟩
  refine List.forall_mem_cons.mpr ⟨⟨_, rfl, fun _ h => h⟩, ?_⟩
  refine List.forall_mem_cons.mpr ⟨⟨_, rfl, fun _ h => h⟩, ?_⟩
  refine List.forall_mem_cons.mpr ⟨⟨_, rfl, fun _ h => h⟩, ?_⟩
  refine List.forall_mem_cons.mpr ⟨⟨_, rfl, fun _ h => h⟩, ?_⟩
  refine List.forall_mem_cons.mpr ⟨⟨_, rfl, fun _ h => h⟩, ?_⟩
  refine List.forall_mem_cons.mpr ⟨⟨_, rfl, fun _ h => h⟩, ?_⟩
  refine List.forall_mem_cons.mpr ⟨⟨_, rfl, fun _ h => h⟩, ?_⟩
  refine List.forall_mem_cons.mpr ⟨⟨_, rfl, fun _ h => h⟩, ?_⟩
  refine List.forall_mem_cons.mpr ⟨⟨_, rfl, fun _ h => h⟩, ?_⟩
  refine List.forall_mem_cons.mpr ⟨⟨_, rfl, fun _ h => h⟩, ?_⟩
  refine List.forall_mem_cons.mpr ⟨⟨_, rfl, fun _ h => h⟩, ?_⟩
  refine List.forall_mem_cons.mpr ⟨⟨_, rfl, fun _ h => h⟩, ?_⟩
  refine List.forall_mem_cons.mpr ⟨⟨_, rfl, fun _ h => h⟩, ?_⟩
  refine List.forall_mem_cons.mpr ⟨⟨_, rfl, fun _ h => h⟩, ?_⟩
  refine List.forall_mem_cons.mpr ⟨⟨_, rfl, fun _ h => h⟩, ?_⟩
  refine List.forall_mem_cons.mpr ⟨⟨_, rfl, fun _ h => h⟩, ?_⟩
  refine List.forall_mem_cons.mpr ⟨⟨_, rfl, fun _ h => h⟩, ?_⟩
  refine List.forall_mem_cons.mpr ⟨⟨_, rfl, fun _ h => h⟩, ?_⟩
  refine List.forall_mem_cons.mpr ⟨⟨_, rfl, fun _ h => h⟩, ?_⟩
  refine List.forall_mem_cons.mpr ⟨⟨_, rfl, fun _ h => h⟩, ?_⟩
  refine List.forall_mem_cons.mpr ⟨⟨_, rfl, fun _ h => h⟩, ?_⟩
  refine List.forall_mem_cons.mpr ⟨⟨_, rfl, fun _ h => h⟩, ?_⟩
  refine List.forall_mem_cons.mpr ⟨⟨_, rfl, fun _ h => h⟩, ?_⟩
  refine List.forall_mem_cons.mpr ⟨⟨_, rfl, fun _ h => h⟩, ?_⟩
  refine List.forall_mem_cons.mpr ⟨⟨_, rfl, fun _ h => h⟩, ?_⟩
  refine List.forall_mem_cons.mpr ⟨⟨_, rfl, fun _ h => h⟩, ?_⟩
  refine List.forall_mem_cons.mpr ⟨⟨_, rfl, fun _ h => h⟩, ?_⟩
  refine List.forall_mem_cons.mpr ⟨⟨_, rfl, fun _ h => h⟩, ?_⟩
  refine List.forall_mem_cons.mpr ⟨⟨_, rfl, fun _ h => h⟩, ?_⟩
  refine List.forall_mem_cons.mpr ⟨⟨_, rfl, fun _ h => h⟩, ?_⟩
  refine List.forall_mem_cons.mpr ⟨⟨_, rfl, fun _ h => h⟩, ?_⟩
  refine List.forall_mem_cons.mpr ⟨⟨_, rfl, fun _ h => h⟩, ?_⟩
  refine List.forall_mem_cons.mpr ⟨⟨_, rfl, fun _ h => h⟩, ?_⟩
  refine List.forall_mem_cons.mpr ⟨⟨_, rfl, fun _ h => h⟩, ?_⟩
  refine List.forall_mem_cons.mpr ⟨⟨_, rfl, fun _ h => h⟩, ?_⟩
  refine List.forall_mem_cons.mpr ⟨⟨_, rfl, fun _ h => h⟩, ?_⟩
  refine List.forall_mem_cons.mpr ⟨⟨_, rfl, fun _ h => h⟩, ?_⟩
  refine List.forall_mem_cons.mpr ⟨⟨_, rfl, fun _ h => at_q (fun j hj => by rcases (show j = 0 ∨ j = 1 ∨ j = 2 ∨ j = 3 ∨ j = 4 ∨ j = 5 ∨ j = 6 ∨ j = 7 by omega) with rfl | rfl | rfl | rfl | rfl | rfl | rfl | rfl <;> rfl) h⟩, ?_⟩
  refine List.forall_mem_cons.mpr ⟨⟨_, rfl, fun _ h => at_q (fun j hj => by rcases (show j = 0 ∨ j = 1 ∨ j = 2 ∨ j = 3 ∨ j = 4 ∨ j = 5 ∨ j = 6 ∨ j = 7 by omega) with rfl | rfl | rfl | rfl | rfl | rfl | rfl | rfl <;> rfl) h⟩, ?_⟩
  refine List.forall_mem_cons.mpr ⟨⟨_, rfl, fun _ h => at_q (fun j hj => by rcases (show j = 0 ∨ j = 1 ∨ j = 2 ∨ j = 3 ∨ j = 4 ∨ j = 5 by omega) with rfl | rfl | rfl | rfl | rfl | rfl <;> rfl) h⟩, ?_⟩
  refine List.forall_mem_cons.mpr ⟨⟨_, rfl, fun _ h => at_i (fun j hj => by rcases (show j = 0 ∨ j = 1 ∨ j = 2 ∨ j = 3 ∨ j = 4 ∨ j = 5 ∨ j = 6 ∨ j = 7 by omega) with rfl | rfl | rfl | rfl | rfl | rfl | rfl | rfl <;> rfl) h⟩, ?_⟩
  refine List.forall_mem_cons.mpr ⟨⟨_, rfl, fun _ h => h⟩, ?_⟩
  refine List.forall_mem_cons.mpr ⟨⟨_, rfl, fun _ h => h⟩, ?_⟩
  refine List.forall_mem_cons.mpr ⟨⟨_, rfl, fun _ h => h⟩, ?_⟩
  refine List.forall_mem_cons.mpr ⟨⟨_, rfl, fun _ h => h⟩, ?_⟩
  refine List.forall_mem_cons.mpr ⟨⟨_, rfl, fun _ h => h⟩, ?_⟩
  refine List.forall_mem_cons.mpr ⟨⟨_, rfl, fun _ h => h⟩, ?_⟩
  refine List.forall_mem_cons.mpr ⟨⟨_, rfl, fun _ h => h⟩, ?_⟩
  refine List.forall_mem_cons.mpr ⟨⟨_, rfl, fun _ h => h⟩, ?_⟩
  refine List.forall_mem_cons.mpr ⟨⟨_, rfl, fun _ h => h⟩, ?_⟩
  refine List.forall_mem_cons.mpr ⟨⟨_, rfl, fun _ h => h⟩, ?_⟩
  exact fun _ h => absurd h List.not_mem_nil
theorem len8 {α : Type} {l : List α} (h : l.length = 8) : ∃ a b c d e f g i, l = [a, b, c, d, e, f, g, i] := by
  match l, h with
  | [a, b, c, d, e, f, g, i], _ => exact ⟨a, b, c, d, e, f, g, i, rfl⟩
theorem len6 {α : Type} {l : List α} (h : l.length = 6) : ∃ a b c d e f, l = [a, b, c, d, e, f] := by
  match l, h with
  | [a, b, c, d, e, f], _ => exact ⟨a, b, c, d, e, f, rfl⟩
/-- the two constructors' world is the abstract machine's -/
theorem g_geo {x y : Nat} {u : cU} {v : List Nat} {st adK adV : Nat → Nat} {K : Nat → ClassId} {D : va_G} {fv : Value} {A : Nat → Prop} {H : Heap} (h6 : (u.2.2 6).length = 8) (h8 : (u.2.2 8).length = 8) (h3 : (u.2.2 3).length = 6) (hP : va_P D gCl (cw9 K x u ++ cwX10 K y v) H) (hD : va_D A (cw9 K x u ++ cwX10 K y v)) :
    va_P D gCl (gW (cAd x y u.1 u.2.1 (u.2.2 6) (u.2.2 8) (u.2.2 3) v st adK adV, K, D, fv) cS0) H ∧ gGok (cAd x y u.1 u.2.1 (u.2.2 6) (u.2.2 8) (u.2.2 3) v st adK adV, K, D, fv) A := by
  obtain ⟨s0, s1, s2, s3, s4, s5, s6, s7, e6⟩ := len8 h6
  obtain ⟨w0, w1, w2, w3, w4, w5, w6, w7, e8⟩ := len8 h8
  obtain ⟨p0, p1, p2, p3, p4, p5, e3⟩ := len6 h3
  obtain ⟨o, ar, ls⟩ := u
  dsimp only at e6 e8 e3 h6 h8 h3 ⊢
  have ew : cw9 K x (o, ar, ls) = cw9 K x (o, ar, fun k => if k = 6 then [s0, s1, s2, s3, s4, s5, s6, s7] else if k = 8 then [w0, w1, w2, w3, w4, w5, w6, w7] else [p0, p1, p2, p3, p4, p5]) := by
    unfold cw9
    dsimp only
    rw [e6, e8, e3]
    rfl
  rw [ew] at hP hD
  rw [e6, e8, e3]
  have key := g_at (x := x) (y := y) (o := o) (ar := ar) (v := v) (st := st) (adK := adK) (adV := adV) (K := K) (D := D) (fv := fv) (s0 := s0) (s1 := s1) (s2 := s2) (s3 := s3) (s4 := s4) (s5 := s5) (s6 := s6) (s7 := s7) (w0 := w0) (w1 := w1) (w2 := w2) (w3 := w3) (w4 := w4) (w5 := w5) (w6 := w6) (w7 := w7) (p0 := p0) (p1 := p1) (p2 := p2) (p3 := p3) (p4 := p4) (p5 := p5)
  constructor
  · intro k q hk
    obtain ⟨r, h1, rfl⟩ := gW_get hk
    have hr := List.mem_of_getElem? h1
    rw [cPSC_gC] at hr
    obtain ⟨z, hz, rfl⟩ := List.mem_map.mp hr
    obtain ⟨e, e1, e2⟩ := key z hz
    exact e2 H (hP z.1 _ e1)
  · constructor
    · intro q hq
      rw [cPSC_gC] at hq
      obtain ⟨z, hz, rfl⟩ := List.mem_map.mp hq
      obtain ⟨e, e1, -⟩ := key z hz
      exact hD.2 z.1 _ e1
    · intro q hq r hr hqr
      rw [cPSC_gC] at hq hr
      obtain ⟨z, hz, rfl⟩ := List.mem_map.mp hq
      obtain ⟨w, hw, rfl⟩ := List.mem_map.mp hr
      obtain ⟨e, e1, -⟩ := key z hz
      obtain ⟨e', e1', -⟩ := key w hw
      rw [cPSC_inj z hz w hw (hD.1 z.1 w.1 _ _ e1 e1' hqr)]
theorem g_st {x y : Nat} {o : Nat → Nat × List Nat} {ar : Nat → Nat} {l6 l8 l3 : List (Nat × List Nat)} {v : List Nat} {st adK adV : Nat → Nat} {K : Nat → ClassId} {D : va_G} {fv : Value} {A : Nat → Prop} {U : State} {H : Heap} (h : gStX st adK adV fv A U H) : gSt (cAd x y o ar l6 l8 l3 v st adK adV, K, D, fv) A U H := by
  refine ⟨?_, h.2.1, h.2.2.1, h.2.2.2.1, h.2.2.2.2.1, h.2.2.2.2.2⟩
  have key : ∀ e ∈ gSL, va_Z (gcn e.1) (gSN e.2.2.1) "[I" (.ref (cAd x y o ar l6 l8 l3 v st adK adV e.2.2.1 0)) A U H ∧ va_T .int (cAd x y o ar l6 l8 l3 v st adK adV e.2.2.1 0) (gSV e.2.2.1).length (fun j => .int ((gSV e.2.2.1).getD j 0)) A U H := (List.forall_mem_cons.mpr ⟨h.1 (5, 83, 40, 447) (by decide), (List.forall_mem_cons.mpr ⟨h.1 (5, 86, 41, 449) (by decide), (List.forall_mem_cons.mpr ⟨h.1 (5, 89, 42, 451) (by decide), (List.forall_mem_cons.mpr ⟨h.1 (5, 92, 43, 453) (by decide), (List.forall_mem_cons.mpr ⟨h.1 (5, 95, 44, 455) (by decide), (List.forall_mem_cons.mpr ⟨h.1 (4, 40, 45, 668) (by decide), (List.forall_mem_cons.mpr ⟨h.1 (4, 43, 46, 670) (by decide), (fun _ h => absurd h List.not_mem_nil)⟩)⟩)⟩)⟩)⟩)⟩)⟩)
  exact key
