/-! THE LAW: what holds at its entry, its end, its calls -/
/-! THE CLAIM OUT OF ONE WALK OF THE LAW'S BODY. Your part is whole_start (and what it stands on); all else here is the same for every law, but numbers. -/
def R_law : String := "GrainWavesLaw"
def lw_P (b : Addr) (xs : List Int32) (args : Array Value) (s : State) : Prop := args = #[.ref b] ∧ s.IntsAt b xs ∧ xs.length ≤ 3072 ∧ (Jvm.Cond.and given_1 narrow_1).before args s = true
def lw_Q (_ : Array Value) (s : State) (o : Outcome) (t : State) : Prop := o = .returned (some (.int 1)) ∧ Framed s o t [] 600000 7302250
def lw_Z (below : List Frame) (a : Array Value) (s : State) : State → Prop := fun t => ∃ o, t.status = .running ∧ Ended t below o ∧ lw_Q a s o t
/-- the law's own end, with 1 on the stack, nothing written that was there before, its room as the claim has it -/
theorem lw_ret {p : Program} {l : Launch} {e : Env} {s : State} {m : MethodId} {below : List Frame} {meth : Method} {c : Code} {b : Nat} (hx : p.tables.exec = Jvm.exec) (hb : c.code = code) (hr : meth.sig.returnType = ret) (hlocks : meth.locks = false) {pc : Nat} {H : Heap} {ls : Array Slot} (hdg : decode code pc = .ok (.ireturn, 1)) : W p l e room_1 s m #[Value.ref b] below meth c H [] 600000 7302250 (lw_Z below #[Value.ref b] s) (F0 m pc ls [.int 1]) := by
  intro T hT X
  obtain ⟨fs, hret, hrun, hended, hW, hframe⟩ := X.leave (v := some (.int 1)) (hlocks := hlocks) (fun h => by rw [hr] at h; cases h)
  have hmeth' : T.vm.method? m = some meth := X.method'
  refine ⟨T.setFrames fs, ?_, .returned (some (.int 1)), hrun, hended, rfl, ⟨_, rfl⟩, hW, hframe⟩
  jvm_step X.here [X.here.top, hx, hb, hdg, hmeth', hr, ret, narrow_b1]
  (try refine ⟨rfl, ?_⟩); (try refine ⟨rfl, ?_⟩)
  first | (intro acts; rw [hret _ acts rfl rfl rfl]) | rw [hret _ _ rfl rfl rfl]
  exact Steps.refl _
/-- what holds at the law's entry: the machine, the code, the tables' words (any of lw_tbl by 'hts w (by decide +kernel)'), the script of L ints xs at the cell b, what the Statement gives of the start (any of its parts by flat_of_before) -/
def lw_At (p : Program) (s : State) (m : MethodId) (meth : Method) (c : Code) (b L : Nat) (xs : Nat → Int32) : Prop :=
  p.tables.exec = Jvm.exec ∧ c.code = code ∧ meth.sig.returnType = ret ∧ c.maxLocals = 4 ∧ s.vm.findClass R_law = some m.cls ∧ (∀ w ∈ lw_tbl, w.before #[Value.ref b] s = true) ∧ va_X b L xs s s.heap ∧ b < s.heap.size ∧ meth.locks = false ∧ (Jvm.Cond.and given_1 narrow_1).before #[Value.ref b] s = true

section SND
variable {p : Program} {l : Launch} {e : Env} {R : Room} {s : State} {m : MethodId} {args : Array Value} {below : List Frame} {meth : Method} {c : Code} {cells slots : Nat} {Q : State → Prop} {G : gG} {A : Nat → Prop} {nL d : Nat} {cc : ByteArray} {pc : Nat} {σ : gT}
/-- a call out of the law -/
theorem L_call {idx f kd n : Nat} {my : gMY} {ps : List Nat} {as : List gAV} {rest : List Value} {post2 : Option gAV → gT → Prop} {H : Heap} {locs : List Loc} {ls : Array Slot} (E : gEv p R s m args c G A 11 cc nL d cells slots) (hd : decode cc pc = .ok (.invokevirtual idx, 3)) (hq : giv 11 idx = some (idx, kd, n, my, ps)) (hf : f < 11) (hkd : kd = 100 + f) (hn : n = as.length + 1) (hvs : gvs (.inr (.inr (f, 0)) :: as)) (h2 : gCx l G A d my (.inr (.inr (f, 0)) :: as) σ post2) (hrm : (rest.map fun v => v.category).sum ≤ 8) (hP : va_P G.2.2.1 gCl (gW G σ) H) (hS : va_S A s.heap H locs) (hsz : ls.size = nL)
    (kk : ∀ (r : Option gAV) (σ2 : gT) (H1 : Heap) (locs1 : List Loc), gokO r → post2 r σ2 → va_P G.2.2.1 gCl (gW G σ2) H1 → va_S A s.heap H1 locs1 → W p l e R s m args below meth c H1 locs1 cells slots Q (F0 m (pc + 3) ls ((r.map (gv G)).toList ++ rest))) : W p l e R s m args below meth c H locs cells slots Q (F0 m pc ls ((as.map (gv G)).reverse ++ .ref (G.1 f 0) :: rest)) := by
  obtain ⟨hx, hb, hml, hown, hts, hK, hSt, hG, hcat, hR, hc1, hc2⟩ := id E
  obtain ⟨e1, e2, e3⟩ := giv_mem hq
  unfold gchkI at e3
  rw [Bool.and_eq_true, Bool.and_eq_true] at e3
  obtain ⟨⟨w1, w2⟩, w3⟩ := e3
  dsimp only at w1 w2 w3
  have hM := h2 hG hcat hvs
  have hcw := gin_ok w1
  split at w3
  · omega
  · omega
  · simp only [Bool.and_eq_true, Bool.or_eq_true, decide_eq_true_eq] at w3
    obtain ⟨⟨⟨⟨⟨⟨⟨w4, w5⟩, w6⟩, w7⟩, w8⟩, w9⟩, w10⟩, w11⟩ := w3
    obtain ⟨y1, y2, y3⟩ := gchkY_ok w7
    have hlen : (as.map (gv G)).length = n - 1 := by
      rw [List.length_map, hn]
      omega
    have hf52 : ¬ f = 52 := by omega
    have hrecv : ∃ cellB : Cell, H[G.1 f 0]? = some cellB ∧ cellB.vm.isStatics = false ∧ s.vm.findClass my.1.cls = some cellB.cls := by
      obtain ⟨C, T, N, ty0, k1, k2, -, -, -, -, -, k8, -⟩ := gclk f hf
      obtain ⟨k, q1, q2⟩ := gW_at G σ (show f < 39 by omega) hvs.1
      rw [gE_obj k8] at q2
      obtain ⟨cell, z1, z2, z3⟩ := va_recv hK hP k1 q2
      refine ⟨cell, z1, z2, ?_⟩
      have hz : 100 + f - 100 = f := by omega
      rw [hkd, hz, ← k2] at w8
      rw [← w8]
      exact z3
    rw [List.map_cons, gv_ref hf52] at hM
    exact g_call (va_runV (C := my.1.cls) (b := G.1 f 0) (As := as.map (gv G)) (rest := rest) (bytes := my.2.1) (maxL := my.2.2.1) (ret := my.2.2.2) (n := n - 1) ⟨hx, hb, hml, hown, hts⟩ hM ⟨callB_of (n - 1) hts (gws_good hcw) rfl rfl rfl (hts _ (gin_ok w2)) (hts _ (gin_ok w9)) y2 ⟨hR.1, by show 8 + (my.2.2.1 + 11) + 64 * d ≤ R.locals; omega⟩, hts _ (gin_ok w10), hts _ (gin_ok w11)⟩ ⟨gPre.blind G A σ _, hrecv, fun U hU hW => ⟨rfl, by rw [hU]; exact hP, va_K.moved hW.alike hK, by rw [hU]; exact hSt.to hW hS.2.1⟩⟩ rfl hlen hsz rfl (lv_room hrm) hd ⟨hc1, hc2⟩) hS kk
end SND
