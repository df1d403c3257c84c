/-! SOUNDNESS of the abstract machine -/
-- inversions of the shapes
theorem p_i_inv {st : gSk} {k : Int32 → gSk → Prop} (h : p_i st k) : ∃ a r, st = .inl a :: r ∧ k a r := by
  unfold p_i at h; split at h
  · exact ⟨_, _, rfl, h⟩
  · exact h.elim
theorem p_l_inv {st : gSk} {k : Int64 → gSk → Prop} (h : p_l st k) : ∃ a r, st = .inr (.inl a) :: r ∧ k a r := by
  unfold p_l at h; split at h
  · exact ⟨_, _, rfl, h⟩
  · exact h.elim
theorem p_r_inv {st : gSk} {k : Nat → Nat → gSk → Prop} (h : p_r st k) : ∃ f i r, st = .inr (.inr (f, i)) :: r ∧ k f i r := by
  unfold p_r at h; split at h
  · exact ⟨_, _, _, rfl, h⟩
  · exact h.elim
theorem p_ii_inv {st : gSk} {k : Int32 → Int32 → gSk → Prop} (h : p_ii st k) : ∃ a b r, st = .inl b :: .inl a :: r ∧ k a b r := by
  unfold p_ii at h; split at h
  · exact ⟨_, _, _, rfl, h⟩
  · exact h.elim
theorem p_ll_inv {st : gSk} {k : Int64 → Int64 → gSk → Prop} (h : p_ll st k) : ∃ a b r, st = .inr (.inl b) :: .inr (.inl a) :: r ∧ k a b r := by
  unfold p_ll at h; split at h
  · exact ⟨_, _, _, rfl, h⟩
  · exact h.elim
theorem p_li_inv {st : gSk} {k : Int64 → Int32 → gSk → Prop} (h : p_li st k) : ∃ a b r, st = .inl b :: .inr (.inl a) :: r ∧ k a b r := by
  unfold p_li at h; split at h
  · exact ⟨_, _, _, rfl, h⟩
  · exact h.elim
theorem p_ri_inv {st : gSk} {k : Nat → Nat → Int32 → gSk → Prop} (h : p_ri st k) : ∃ f i j r, st = .inl j :: .inr (.inr (f, i)) :: r ∧ k f i j r := by
  unfold p_ri at h; split at h
  · exact ⟨_, _, _, _, rfl, h⟩
  · exact h.elim
theorem p_rii_inv {st : gSk} {k : Nat → Nat → Int32 → Int32 → gSk → Prop} (h : p_rii st k) : ∃ f i j x r, st = .inl x :: .inl j :: .inr (.inr (f, i)) :: r ∧ k f i j x r := by
  unfold p_rii at h; split at h
  · exact ⟨_, _, _, _, _, rfl, h⟩
  · exact h.elim
theorem p_ril_inv {st : gSk} {k : Nat → Nat → Int32 → Int64 → gSk → Prop} (h : p_ril st k) : ∃ f i j x r, st = .inr (.inl x) :: .inl j :: .inr (.inr (f, i)) :: r ∧ k f i j x r := by
  unfold p_ril at h; split at h
  · exact ⟨_, _, _, _, _, rfl, h⟩
  · exact h.elim
theorem p_v_inv {st : gSk} {k : gAV → gSk → Prop} (h : p_v st k) : ∃ v r, st = v :: r ∧ k v r := by
  unfold p_v at h; split at h
  · exact ⟨_, _, rfl, h⟩
  · exact h.elim
theorem p_lo_inv {L : gLo} {i : Nat} {k : gAV → Prop} (h : p_lo L i k) : ∃ v, L[i]? = some (some v) ∧ k v := by
  unfold p_lo at h; split at h
  · exact ⟨_, by assumption, h⟩
  · exact h.elim
theorem p_lI_inv {v : gAV} {k : Int32 → Prop} (h : p_lI v k) : ∃ x, v = .inl x ∧ k x := by
  unfold p_lI at h; split at h
  · exact ⟨_, rfl, h⟩
  · exact h.elim
theorem p_lL_inv {v : gAV} {k : Int64 → Prop} (h : p_lL v k) : ∃ x, v = .inr (.inl x) ∧ k x := by
  unfold p_lL at h; split at h
  · exact ⟨_, rfl, h⟩
  · exact h.elim
theorem p_lR_inv {v : gAV} {k : Nat → Nat → Prop} (h : p_lR v k) : ∃ f i, v = .inr (.inr (f, i)) ∧ k f i := by
  unfold p_lR at h; split at h
  · exact ⟨_, _, rfl, h⟩
  · exact h.elim
theorem p_if {c : Prop} [Decidable c] {k : Prop} (h : if c then k else False) : c ∧ k := by
  by_cases hc : c
  · rw [if_pos hc] at h; exact ⟨hc, h⟩
  · rw [if_neg hc] at h; exact h.elim
theorem p_nif {c : Prop} [Decidable c] {k : Prop} (h : if c then False else k) : ¬ c ∧ k := by
  by_cases hc : c
  · rw [if_pos hc] at h; exact h.elim
  · rw [if_neg hc] at h; exact ⟨hc, h⟩
def gSt (G : gG) (A : Nat → Prop) (U : State) (H : Heap) : Prop :=
  (∀ e ∈ gSL, va_Z (gcn e.1) (gSN e.2.2.1) "[I" (.ref (G.1 e.2.2.1 0)) A U H ∧ va_T .int (G.1 e.2.2.1 0) (gSV e.2.2.1).length (fun j => .int ((gSV e.2.2.1).getD j 0)) A U H) ∧
  va_Z "java/lang/String" "COMPACT_STRINGS" "Z" (.int 1) A U H ∧
  va_Z "jdk/internal/util/Preconditions" "SIOOBE_FORMATTER" "Ljava/util/function/BiFunction;" G.2.2.2 A U H ∧
  vk_S 7 gLen gByt (G.1 50) (G.1 51) A U H ∧
  (∀ e ∈ gSRL, vk_R (gcn e.1) e.2.1 (gTx e.2.2) (G.1 50 e.2.2) U) ∧
  ∀ (o : Nat), ∀ e ∈ gIL o, e.2.1 = 2 → va_Nw (.methodLinkNest (gcn o) e.1 e.2.2.2.1.1 "GrainWaves") U
theorem gSt.to {G : gG} {A : Nat → Prop} {s U : State} {H0 H : Heap} (hW : s.WarmedH U.vm) (h : gSt G A s H0) (hk : ∀ a : Nat, a < H0.size → ¬ A a → H[a]? = H0[a]?) : gSt G A U H :=
  ⟨fun e he => ⟨va_Z.moved hW.alike ((h.1 e he).1.kept hk), va_T.moved hW.alike ((h.1 e he).2.kept hk)⟩, va_Z.moved hW.alike (h.2.1.kept hk), va_Z.moved hW.alike (h.2.2.1.kept hk), vk_S.moved hW.alike (h.2.2.2.1.kept hk), fun e he => (h.2.2.2.2.1 e he).warm hW, fun o e he h2 => va_Nw.warmM hW (h.2.2.2.2.2 o e he h2)⟩
theorem gSt.same {G : gG} {A : Nat → Prop} {u U : State} {H : Heap} (hv : U.vm = u.vm) (h : gSt G A u H) : gSt G A U H := by
  have ha : u.vm.Alike U.vm := by rw [hv]; exact Vm.Alike.refl u.vm
  exact ⟨fun e he => ⟨va_Z.moved ha (h.1 e he).1, va_T.moved ha (h.1 e he).2⟩, va_Z.moved ha h.2.1, va_Z.moved ha h.2.2.1, vk_S.moved ha h.2.2.2.1, fun e he => (h.2.2.2.2.1 e he).same hv, fun o e he h2 => va_Nw.same rfl hv.symm (h.2.2.2.2.2 o e he h2)⟩
def gPre (G : gG) (A : Nat → Prop) (σ : gT) (U : State) : Prop := va_P G.2.2.1 gCl (gW G σ) U.heap ∧ va_K G.2.2.1 gCl (gTy G) U ∧ gSt G A U U.heap
def gQ (G : gG) (A : Nat → Prop) (post : Option gAV → gT → Prop) : Array Value → State → Outcome → State → Prop := fun _ st oc t => ∃ (r : Option gAV) (σ : gT), oc = .returned (r.map (gv G)) ∧ gokO r ∧ post r σ ∧ va_P G.2.2.1 gCl (gW G σ) t.heap ∧ va_F A st t
def gRm (d : Nat) : Room := { frames := d, cells := 0, slots := 0, locals := 64 * d }
def gws (my : gMY) : List Cond := Cond.code my.1 my.2.1 my.2.2.1 my.2.2.2 :: gWs
/-- A METHOD'S CONTRACT over the abstract machine: called with these values from this store it comes back with an answer and a store of post; d bounds the calls that stand open -/
def gCx (l : Launch) (G : gG) (A : Nat → Prop) (d : Nat) (my : gMY) (as : List gAV) (σ : gT) (post : Option gAV → gT → Prop) : Prop := gGok G A → G.2.2.2.category = 1 → gvs as → Met l my.1 (gws my) (gRm d) (va_Pc (as.map (gv G)) (gPre G A σ)) (gQ G A post) 0 0 A
theorem gPre.blind (G : gG) (A : Nat → Prop) (σ : gT) (as : List Value) : FrameBlind (va_Pc as (gPre G A σ)) := by
  intro a U g mk h
  obtain ⟨h1, hP, hK, hS⟩ := h
  exact ⟨h1, hP, va_K.moved (u := U) (U := U.calling g mk a) (Vm.Alike.refl U.vm) hK, gSt.same rfl hS⟩
theorem gws_good {my : gMY} (h : Cond.code my.1 my.2.1 my.2.2.1 my.2.2.2 ∈ gWs) : GoodIn gWs (gws my) := by
  have key : ∀ w ∈ gWs, w ∈ gWs ∧ ((w.onTables && w.keeps) = true ∨ ∃ ty, w = .arrayClass ty) := fun w hw => ⟨hw, good_of_word (List.mem_filter.mp hw).2⟩
  intro w hw
  rcases List.mem_cons.mp hw with rfl | hw
  · exact key _ h
  · exact key w hw
/-- the length of an instruction; 0: a switch -/
def gln : Instr → Nat
  | .iload _ => 2
  | .lload _ => 2
  | .aload _ => 2
  | .istore _ => 2
  | .lstore _ => 2
  | .astore _ => 2
  | .bipush _ => 2
  | .ldc _ => 2
  | .sipush _ => 3
  | .ldc_w _ => 3
  | .ldc2_w _ => 3
  | .iinc _ _ => 3
  | .goto _ => 3
  | .ifCond _ _ => 3
  | .if_icmp _ _ => 3
  | .getfield _ => 3
  | .putfield _ => 3
  | .getstatic _ => 3
  | .invokestatic _ => 3
  | .invokevirtual _ => 3
  | .tableswitch _ _ _ _ => 0
  | .lookupswitch _ _ => 0
  | _ => 1
def gjp (pc : Nat) (off : Int) : Bool := decide (0 ≤ (pc : Int) + off)
/-- what is looked at ahead: jumps come to a place, small constants are what they are -/
def gjok (pc : Nat) : Instr → Bool
  | .goto off => gjp pc off
  | .ifCond _ off => gjp pc off
  | .if_icmp _ off => gjp pc off
  | .tableswitch d lo hi offs => gjp pc d && offs.toList.all (gjp pc) && decide (hi - lo + 1 = (offs.toList.length : Int))
  | .lookupswitch d ps => gjp pc d && ps.toList.all (fun q => gjp pc q.2) && (ps.toList.zip (ps.toList.drop 1)).all (fun (a, next) => decide (a.1 < next.1))
  | .bipush n => decide ((Int8.ofInt n).toInt32 = gci n)
  | .sipush n => decide ((Int16.ofInt n).toInt32 = gci n)
  | .iconst n => decide (Int32.ofInt n = gci n)
  | .iinc _ n => decide (Int32.ofInt n = gci n)
  | _ => true
def gchk (cc : ByteArray) (pc : Nat) (q : Instr × Nat) : Bool := decide (decode cc pc = .ok (q.1, q.2)) && (gln q.1 == 0 || gln q.1 == q.2) && gjok pc q.1
def gokl (cc : ByteArray) : Nat → List (Instr × Nat) → Bool
  | _, [] => true
  | pc, q :: cs => gchk cc pc q && gokl cc (pc + q.2) cs
theorem gtg_eq {pc : Nat} {off : Int} (h : gjp pc off = true) : (pc : Int) + off = ((gtg pc off : Nat) : Int) := by
  have := of_decide_eq_true h
  unfold gtg
  omega
def gWx (p : Program) (l : Launch) (e : Env) (R : Room) (s : State) (m : MethodId) (args : Array Value) (below : List Frame) (meth : Method) (c : Code) (cells slots : Nat) (Q : State → Prop) (G : gG) (A : Nat → Prop) (nL : Nat) : gK := fun pc L st σ => gvs st → gvl L → ∀ (H : Heap) (locs : List Loc) (ls : Array Slot), va_P G.2.2.1 gCl (gW G σ) H → va_S A s.heap H locs → gLH G ls nL L → W p l e R s m args below meth c H locs cells slots Q (F0 m pc ls (st.map (gv G)))
def gEv (p : Program) (R : Room) (s : State) (m : MethodId) (args : Array Value) (c : Code) (G : gG) (A : Nat → Prop) (o : Nat) (cc : ByteArray) (nL d cells slots : Nat) : Prop :=
  p.tables.exec = Jvm.exec ∧ c.code = cc ∧ c.maxLocals = nL ∧ s.vm.findClass (gcn o) = some m.cls ∧ (∀ w ∈ gWs, w.before args s = true) ∧ va_K G.2.2.1 gCl (gTy G) s ∧ gSt G A s s.heap ∧ gGok G A ∧ G.2.2.2.category = 1 ∧ (d + 1 ≤ R.frames ∧ 64 * d + 60 ≤ R.locals) ∧ cells ≤ R.cells ∧ slots ≤ R.slots
theorem gsw_at {x : Int} {k : Int → Prop} : ∀ {lo : Int} {offs : List Int}, gsw x lo k offs → ∀ {off : Int}, lo ≤ x → offs[(x - lo).toNat]? = some off → k off
  | lo, [], _, off, _, h2 => by simp at h2
  | lo, a :: r, h, off, h1, h2 => by
    by_cases hx : x = lo
    · subst hx
      have hz : (x - x).toNat = 0 := by omega
      rw [hz, List.getElem?_cons_zero] at h2
      cases h2
      exact h.1 rfl
    · have hz : (x - lo).toNat = (x - (lo + 1)).toNat + 1 := by omega
      rw [hz, List.getElem?_cons_succ] at h2
      exact gsw_at h.2 (by omega) h2

section SND
variable {p : Program} {l : Launch} {e : Env} {R : Room} {s : State} {m : MethodId} {args : Array Value} {below : List Frame} {meth : Method} {c : Code} {cells slots : Nat} {Q : State → Prop} {G : gG} {A : Nat → Prop} {nL o d : Nat} {cc : ByteArray} {rt : Option FieldType} {post : Option gAV → gT → Prop} {pc : Nat} {L : gLo} {st : gSk} {σ : gT} {kn : gLo → gSk → gT → Prop} {kj : gK}
theorem s_iload_n {n : Fin 4} (E : gEv p R s m args c G A o cc nL d cells slots) (hd : decode cc pc = .ok (.iload_n n, 1)) (h : gx o rt post (gCx l G A d) pc L st σ kn kj (.iload_n n)) (Hn : ∀ L2 st2 σ2, kn L2 st2 σ2 → gWx p l e R s m args below meth c cells slots Q G A nL (pc + 1) L2 st2 σ2) : gWx p l e R s m args below meth c cells slots Q G A nL pc L st σ := by
  obtain ⟨hx, hb, hml, hown, hts, hK, hSt, hG, hcat, hR, hc1, hc2⟩ := id E
  obtain ⟨v, hv, h⟩ := p_lo_inv h
  obtain ⟨x, rfl, h⟩ := p_lI_inv h
  intro hs hl H locs ls hP hS hL
  exact lv_iload_n hx hb hd rfl (hL.2.2.2 _ _ hv) (Hn _ _ _ h ⟨trivial, hs⟩ hl H locs ls hP hS hL)
theorem s_iload {n : Nat} (E : gEv p R s m args c G A o cc nL d cells slots) (hd : decode cc pc = .ok (.iload n, 2)) (h : gx o rt post (gCx l G A d) pc L st σ kn kj (.iload n)) (Hn : ∀ L2 st2 σ2, kn L2 st2 σ2 → gWx p l e R s m args below meth c cells slots Q G A nL (pc + 2) L2 st2 σ2) : gWx p l e R s m args below meth c cells slots Q G A nL pc L st σ := by
  obtain ⟨hx, hb, hml, hown, hts, hK, hSt, hG, hcat, hR, hc1, hc2⟩ := id E
  obtain ⟨v, hv, h⟩ := p_lo_inv h
  obtain ⟨x, rfl, h⟩ := p_lI_inv h
  intro hs hl H locs ls hP hS hL
  exact lv_iload hx hb hd (hL.2.2.2 _ _ hv) (Hn _ _ _ h ⟨trivial, hs⟩ hl H locs ls hP hS hL)
theorem s_lload_n {n : Fin 4} (E : gEv p R s m args c G A o cc nL d cells slots) (hd : decode cc pc = .ok (.lload_n n, 1)) (h : gx o rt post (gCx l G A d) pc L st σ kn kj (.lload_n n)) (Hn : ∀ L2 st2 σ2, kn L2 st2 σ2 → gWx p l e R s m args below meth c cells slots Q G A nL (pc + 1) L2 st2 σ2) : gWx p l e R s m args below meth c cells slots Q G A nL pc L st σ := by
  obtain ⟨hx, hb, hml, hown, hts, hK, hSt, hG, hcat, hR, hc1, hc2⟩ := id E
  obtain ⟨v, hv, h⟩ := p_lo_inv h
  obtain ⟨x, rfl, h⟩ := p_lL_inv h
  intro hs hl H locs ls hP hS hL
  exact lv_lload_n hx hb hd rfl (hL.2.2.2 _ _ hv) (Hn _ _ _ h ⟨trivial, hs⟩ hl H locs ls hP hS hL)
theorem s_lload {n : Nat} (E : gEv p R s m args c G A o cc nL d cells slots) (hd : decode cc pc = .ok (.lload n, 2)) (h : gx o rt post (gCx l G A d) pc L st σ kn kj (.lload n)) (Hn : ∀ L2 st2 σ2, kn L2 st2 σ2 → gWx p l e R s m args below meth c cells slots Q G A nL (pc + 2) L2 st2 σ2) : gWx p l e R s m args below meth c cells slots Q G A nL pc L st σ := by
  obtain ⟨hx, hb, hml, hown, hts, hK, hSt, hG, hcat, hR, hc1, hc2⟩ := id E
  obtain ⟨v, hv, h⟩ := p_lo_inv h
  obtain ⟨x, rfl, h⟩ := p_lL_inv h
  intro hs hl H locs ls hP hS hL
  exact lv_lload hx hb hd (hL.2.2.2 _ _ hv) (Hn _ _ _ h ⟨trivial, hs⟩ hl H locs ls hP hS hL)
theorem s_aload_n {n : Fin 4} (E : gEv p R s m args c G A o cc nL d cells slots) (hd : decode cc pc = .ok (.aload_n n, 1)) (h : gx o rt post (gCx l G A d) pc L st σ kn kj (.aload_n n)) (Hn : ∀ L2 st2 σ2, kn L2 st2 σ2 → gWx p l e R s m args below meth c cells slots Q G A nL (pc + 1) L2 st2 σ2) : gWx p l e R s m args below meth c cells slots Q G A nL pc L st σ := by
  obtain ⟨hx, hb, hml, hown, hts, hK, hSt, hG, hcat, hR, hc1, hc2⟩ := id E
  obtain ⟨v, hv, h⟩ := p_lo_inv h
  obtain ⟨f, i, rfl, h⟩ := p_lR_inv h
  obtain ⟨hf, h⟩ := p_nif h
  intro hs hl H locs ls hP hS hL
  have hk := Hn _ _ _ h ⟨hl _ _ hv, hs⟩ hl H locs ls hP hS hL
  have he := hL.2.2.2 _ _ hv
  rw [List.map_cons, gv_ref hf] at hk
  rw [gv_ref hf] at he
  exact lv_aload_n hx hb hd rfl he hk
theorem s_aload {n : Nat} (E : gEv p R s m args c G A o cc nL d cells slots) (hd : decode cc pc = .ok (.aload n, 2)) (h : gx o rt post (gCx l G A d) pc L st σ kn kj (.aload n)) (Hn : ∀ L2 st2 σ2, kn L2 st2 σ2 → gWx p l e R s m args below meth c cells slots Q G A nL (pc + 2) L2 st2 σ2) : gWx p l e R s m args below meth c cells slots Q G A nL pc L st σ := by
  obtain ⟨hx, hb, hml, hown, hts, hK, hSt, hG, hcat, hR, hc1, hc2⟩ := id E
  obtain ⟨v, hv, h⟩ := p_lo_inv h
  obtain ⟨f, i, rfl, h⟩ := p_lR_inv h
  obtain ⟨hf, h⟩ := p_nif h
  intro hs hl H locs ls hP hS hL
  have hk := Hn _ _ _ h ⟨hl _ _ hv, hs⟩ hl H locs ls hP hS hL
  have he := hL.2.2.2 _ _ hv
  rw [List.map_cons, gv_ref hf] at hk
  rw [gv_ref hf] at he
  exact lv_aload hx hb hd he hk
theorem s_istore_n {n : Fin 4} (E : gEv p R s m args c G A o cc nL d cells slots) (hd : decode cc pc = .ok (.istore_n n, 1)) (h : gx o rt post (gCx l G A d) pc L st σ kn kj (.istore_n n)) (Hn : ∀ L2 st2 σ2, kn L2 st2 σ2 → gWx p l e R s m args below meth c cells slots Q G A nL (pc + 1) L2 st2 σ2) : gWx p l e R s m args below meth c cells slots Q G A nL pc L st σ := by
  obtain ⟨hx, hb, hml, hown, hts, hK, hSt, hG, hcat, hR, hc1, hc2⟩ := id E
  obtain ⟨a, r, rfl, h⟩ := p_i_inv h
  obtain ⟨hn, h⟩ := p_if h
  intro hs hl H locs ls hP hS hL
  exact lv_istore_n hx hb hd rfl hL.has (by rw [← hL.2.2.1]; exact hn) rfl (fun ls2 h2 => Hn _ _ _ h hs.2 (gvl_st hl trivial) H locs ls2 hP hS (hL.st1 hcat (v := .inl a) rfl h2))
theorem s_istore {n : Nat} (E : gEv p R s m args c G A o cc nL d cells slots) (hd : decode cc pc = .ok (.istore n, 2)) (h : gx o rt post (gCx l G A d) pc L st σ kn kj (.istore n)) (Hn : ∀ L2 st2 σ2, kn L2 st2 σ2 → gWx p l e R s m args below meth c cells slots Q G A nL (pc + 2) L2 st2 σ2) : gWx p l e R s m args below meth c cells slots Q G A nL pc L st σ := by
  obtain ⟨hx, hb, hml, hown, hts, hK, hSt, hG, hcat, hR, hc1, hc2⟩ := id E
  obtain ⟨a, r, rfl, h⟩ := p_i_inv h
  obtain ⟨hn, h⟩ := p_if h
  intro hs hl H locs ls hP hS hL
  exact lv_istore hx hb hd hL.has (by rw [← hL.2.2.1]; exact hn) rfl (fun ls2 h2 => Hn _ _ _ h hs.2 (gvl_st hl trivial) H locs ls2 hP hS (hL.st1 hcat (v := .inl a) rfl h2))
theorem s_lstore_n {n : Fin 4} (E : gEv p R s m args c G A o cc nL d cells slots) (hd : decode cc pc = .ok (.lstore_n n, 1)) (h : gx o rt post (gCx l G A d) pc L st σ kn kj (.lstore_n n)) (Hn : ∀ L2 st2 σ2, kn L2 st2 σ2 → gWx p l e R s m args below meth c cells slots Q G A nL (pc + 1) L2 st2 σ2) : gWx p l e R s m args below meth c cells slots Q G A nL pc L st σ := by
  obtain ⟨hx, hb, hml, hown, hts, hK, hSt, hG, hcat, hR, hc1, hc2⟩ := id E
  obtain ⟨a, r, rfl, h⟩ := p_l_inv h
  obtain ⟨hn, h⟩ := p_if h
  intro hs hl H locs ls hP hS hL
  exact lv_lstore_n hx hb hd rfl hL.has (by rw [← hL.2.2.1]; exact hn) rfl (fun ls2 h2 => Hn _ _ _ h hs.2 (gvl_st hl trivial) H locs ls2 hP hS (hL.st2 hcat h2))
theorem s_lstore {n : Nat} (E : gEv p R s m args c G A o cc nL d cells slots) (hd : decode cc pc = .ok (.lstore n, 2)) (h : gx o rt post (gCx l G A d) pc L st σ kn kj (.lstore n)) (Hn : ∀ L2 st2 σ2, kn L2 st2 σ2 → gWx p l e R s m args below meth c cells slots Q G A nL (pc + 2) L2 st2 σ2) : gWx p l e R s m args below meth c cells slots Q G A nL pc L st σ := by
  obtain ⟨hx, hb, hml, hown, hts, hK, hSt, hG, hcat, hR, hc1, hc2⟩ := id E
  obtain ⟨a, r, rfl, h⟩ := p_l_inv h
  obtain ⟨hn, h⟩ := p_if h
  intro hs hl H locs ls hP hS hL
  exact lv_lstore hx hb hd hL.has (by rw [← hL.2.2.1]; exact hn) rfl (fun ls2 h2 => Hn _ _ _ h hs.2 (gvl_st hl trivial) H locs ls2 hP hS (hL.st2 hcat h2))
theorem s_astore_n {n : Fin 4} (E : gEv p R s m args c G A o cc nL d cells slots) (hd : decode cc pc = .ok (.astore_n n, 1)) (h : gx o rt post (gCx l G A d) pc L st σ kn kj (.astore_n n)) (Hn : ∀ L2 st2 σ2, kn L2 st2 σ2 → gWx p l e R s m args below meth c cells slots Q G A nL (pc + 1) L2 st2 σ2) : gWx p l e R s m args below meth c cells slots Q G A nL pc L st σ := by
  obtain ⟨hx, hb, hml, hown, hts, hK, hSt, hG, hcat, hR, hc1, hc2⟩ := id E
  obtain ⟨f, i, r, rfl, h⟩ := p_r_inv h
  obtain ⟨hf, h⟩ := p_nif h
  obtain ⟨hn, h⟩ := p_if h
  intro hs hl H locs ls hP hS hL
  rw [List.map_cons, gv_ref hf]
  exact lv_astore_n hx hb hd rfl hL.has (by rw [← hL.2.2.1]; exact hn) rfl (fun ls2 h2 => Hn _ _ _ h hs.2 (gvl_st hl hs.1) H locs ls2 hP hS (hL.st1 hcat (v := .inr (.inr (f, i))) rfl (by rw [gv_ref hf]; exact h2)))
theorem s_astore {n : Nat} (E : gEv p R s m args c G A o cc nL d cells slots) (hd : decode cc pc = .ok (.astore n, 2)) (h : gx o rt post (gCx l G A d) pc L st σ kn kj (.astore n)) (Hn : ∀ L2 st2 σ2, kn L2 st2 σ2 → gWx p l e R s m args below meth c cells slots Q G A nL (pc + 2) L2 st2 σ2) : gWx p l e R s m args below meth c cells slots Q G A nL pc L st σ := by
  obtain ⟨hx, hb, hml, hown, hts, hK, hSt, hG, hcat, hR, hc1, hc2⟩ := id E
  obtain ⟨f, i, r, rfl, h⟩ := p_r_inv h
  obtain ⟨hf, h⟩ := p_nif h
  obtain ⟨hn, h⟩ := p_if h
  intro hs hl H locs ls hP hS hL
  rw [List.map_cons, gv_ref hf]
  exact lv_astore hx hb hd hL.has (by rw [← hL.2.2.1]; exact hn) rfl (fun ls2 h2 => Hn _ _ _ h hs.2 (gvl_st hl hs.1) H locs ls2 hP hS (hL.st1 hcat (v := .inr (.inr (f, i))) rfl (by rw [gv_ref hf]; exact h2)))
theorem s_iinc {n : Nat} {k : Int} (E : gEv p R s m args c G A o cc nL d cells slots) (hd : decode cc pc = .ok (.iinc n k, 3)) (hj : gjok pc (.iinc n k) = true) (h : gx o rt post (gCx l G A d) pc L st σ kn kj (.iinc n k)) (Hn : ∀ L2 st2 σ2, kn L2 st2 σ2 → gWx p l e R s m args below meth c cells slots Q G A nL (pc + 3) L2 st2 σ2) : gWx p l e R s m args below meth c cells slots Q G A nL pc L st σ := by
  obtain ⟨hx, hb, hml, hown, hts, hK, hSt, hG, hcat, hR, hc1, hc2⟩ := id E
  obtain ⟨v, hv, h⟩ := p_lo_inv h
  obtain ⟨x, rfl, h⟩ := p_lI_inv h
  obtain ⟨hn, h⟩ := p_if h
  intro hs hl H locs ls hP hS hL
  obtain ⟨q, hq⟩ := List.getElem?_of_mem (gpr_mem (G := G) (L := L) (q := (n, .int x)) |>.mpr ⟨_, hv, rfl⟩)
  have hj := of_decide_eq_true hj
  exact lv_iinc hx hb hd hL.has hq (by rw [hj]) (by rw [← hL.2.2.1]; exact hn) rfl (fun ls2 h2 => Hn _ _ _ h hs (gvl_st hl trivial) H locs ls2 hP hS (hL.st1 hcat (v := .inl (x + gci k)) rfl h2))
theorem s_iconst {k : Int} (E : gEv p R s m args c G A o cc nL d cells slots) (hd : decode cc pc = .ok (.iconst k, 1)) (hj : gjok pc (.iconst k) = true) (h : gx o rt post (gCx l G A d) pc L st σ kn kj (.iconst k)) (Hn : ∀ L2 st2 σ2, kn L2 st2 σ2 → gWx p l e R s m args below meth c cells slots Q G A nL (pc + 1) L2 st2 σ2) : gWx p l e R s m args below meth c cells slots Q G A nL pc L st σ := by
  obtain ⟨hx, hb, hml, hown, hts, hK, hSt, hG, hcat, hR, hc1, hc2⟩ := id E
  intro hs hl H locs ls hP hS hL
  have hj := of_decide_eq_true hj
  exact lv_iconst hx hb hd hj (Hn _ _ _ h ⟨trivial, hs⟩ hl H locs ls hP hS hL)
theorem s_bipush {k : Int} (E : gEv p R s m args c G A o cc nL d cells slots) (hd : decode cc pc = .ok (.bipush k, 2)) (hj : gjok pc (.bipush k) = true) (h : gx o rt post (gCx l G A d) pc L st σ kn kj (.bipush k)) (Hn : ∀ L2 st2 σ2, kn L2 st2 σ2 → gWx p l e R s m args below meth c cells slots Q G A nL (pc + 2) L2 st2 σ2) : gWx p l e R s m args below meth c cells slots Q G A nL pc L st σ := by
  obtain ⟨hx, hb, hml, hown, hts, hK, hSt, hG, hcat, hR, hc1, hc2⟩ := id E
  intro hs hl H locs ls hP hS hL
  have hj := of_decide_eq_true hj
  exact lv_bipush hx hb hd hj (Hn _ _ _ h ⟨trivial, hs⟩ hl H locs ls hP hS hL)
theorem s_sipush {k : Int} (E : gEv p R s m args c G A o cc nL d cells slots) (hd : decode cc pc = .ok (.sipush k, 3)) (hj : gjok pc (.sipush k) = true) (h : gx o rt post (gCx l G A d) pc L st σ kn kj (.sipush k)) (Hn : ∀ L2 st2 σ2, kn L2 st2 σ2 → gWx p l e R s m args below meth c cells slots Q G A nL (pc + 3) L2 st2 σ2) : gWx p l e R s m args below meth c cells slots Q G A nL pc L st σ := by
  obtain ⟨hx, hb, hml, hown, hts, hK, hSt, hG, hcat, hR, hc1, hc2⟩ := id E
  intro hs hl H locs ls hP hS hL
  have hj := of_decide_eq_true hj
  exact lv_sipush hx hb hd hj (Hn _ _ _ h ⟨trivial, hs⟩ hl H locs ls hP hS hL)
theorem s_lconst {k : Fin 2} (E : gEv p R s m args c G A o cc nL d cells slots) (hd : decode cc pc = .ok (.lconst k, 1)) (h : gx o rt post (gCx l G A d) pc L st σ kn kj (.lconst k)) (Hn : ∀ L2 st2 σ2, kn L2 st2 σ2 → gWx p l e R s m args below meth c cells slots Q G A nL (pc + 1) L2 st2 σ2) : gWx p l e R s m args below meth c cells slots Q G A nL pc L st σ := by
  obtain ⟨hx, hb, hml, hown, hts, hK, hSt, hG, hcat, hR, hc1, hc2⟩ := id E
  intro hs hl H locs ls hP hS hL
  exact lv_lconst hx hb hd rfl (Hn _ _ _ h ⟨trivial, hs⟩ hl H locs ls hP hS hL)
theorem s_iadd (E : gEv p R s m args c G A o cc nL d cells slots) (hd : decode cc pc = .ok (.iadd, 1)) (h : gx o rt post (gCx l G A d) pc L st σ kn kj (.iadd)) (Hn : ∀ L2 st2 σ2, kn L2 st2 σ2 → gWx p l e R s m args below meth c cells slots Q G A nL (pc + 1) L2 st2 σ2) : gWx p l e R s m args below meth c cells slots Q G A nL pc L st σ := by
  obtain ⟨hx, hb, hml, hown, hts, hK, hSt, hG, hcat, hR, hc1, hc2⟩ := id E
  obtain ⟨a, b, r, rfl, h⟩ := p_ii_inv h
  intro hs hl H locs ls hP hS hL
  exact lv_iadd hx hb hd (Hn _ _ _ h ⟨trivial, hs.2.2⟩ hl H locs ls hP hS hL)
theorem s_isub (E : gEv p R s m args c G A o cc nL d cells slots) (hd : decode cc pc = .ok (.isub, 1)) (h : gx o rt post (gCx l G A d) pc L st σ kn kj (.isub)) (Hn : ∀ L2 st2 σ2, kn L2 st2 σ2 → gWx p l e R s m args below meth c cells slots Q G A nL (pc + 1) L2 st2 σ2) : gWx p l e R s m args below meth c cells slots Q G A nL pc L st σ := by
  obtain ⟨hx, hb, hml, hown, hts, hK, hSt, hG, hcat, hR, hc1, hc2⟩ := id E
  obtain ⟨a, b, r, rfl, h⟩ := p_ii_inv h
  intro hs hl H locs ls hP hS hL
  exact lv_isub hx hb hd (Hn _ _ _ h ⟨trivial, hs.2.2⟩ hl H locs ls hP hS hL)
theorem s_imul (E : gEv p R s m args c G A o cc nL d cells slots) (hd : decode cc pc = .ok (.imul, 1)) (h : gx o rt post (gCx l G A d) pc L st σ kn kj (.imul)) (Hn : ∀ L2 st2 σ2, kn L2 st2 σ2 → gWx p l e R s m args below meth c cells slots Q G A nL (pc + 1) L2 st2 σ2) : gWx p l e R s m args below meth c cells slots Q G A nL pc L st σ := by
  obtain ⟨hx, hb, hml, hown, hts, hK, hSt, hG, hcat, hR, hc1, hc2⟩ := id E
  obtain ⟨a, b, r, rfl, h⟩ := p_ii_inv h
  intro hs hl H locs ls hP hS hL
  exact lv_imul hx hb hd (Hn _ _ _ h ⟨trivial, hs.2.2⟩ hl H locs ls hP hS hL)
theorem s_iand (E : gEv p R s m args c G A o cc nL d cells slots) (hd : decode cc pc = .ok (.iand, 1)) (h : gx o rt post (gCx l G A d) pc L st σ kn kj (.iand)) (Hn : ∀ L2 st2 σ2, kn L2 st2 σ2 → gWx p l e R s m args below meth c cells slots Q G A nL (pc + 1) L2 st2 σ2) : gWx p l e R s m args below meth c cells slots Q G A nL pc L st σ := by
  obtain ⟨hx, hb, hml, hown, hts, hK, hSt, hG, hcat, hR, hc1, hc2⟩ := id E
  obtain ⟨a, b, r, rfl, h⟩ := p_ii_inv h
  intro hs hl H locs ls hP hS hL
  exact lv_iand hx hb hd (Hn _ _ _ h ⟨trivial, hs.2.2⟩ hl H locs ls hP hS hL)
theorem s_ior (E : gEv p R s m args c G A o cc nL d cells slots) (hd : decode cc pc = .ok (.ior, 1)) (h : gx o rt post (gCx l G A d) pc L st σ kn kj (.ior)) (Hn : ∀ L2 st2 σ2, kn L2 st2 σ2 → gWx p l e R s m args below meth c cells slots Q G A nL (pc + 1) L2 st2 σ2) : gWx p l e R s m args below meth c cells slots Q G A nL pc L st σ := by
  obtain ⟨hx, hb, hml, hown, hts, hK, hSt, hG, hcat, hR, hc1, hc2⟩ := id E
  obtain ⟨a, b, r, rfl, h⟩ := p_ii_inv h
  intro hs hl H locs ls hP hS hL
  exact lv_ior hx hb hd (Hn _ _ _ h ⟨trivial, hs.2.2⟩ hl H locs ls hP hS hL)
theorem s_ishl (E : gEv p R s m args c G A o cc nL d cells slots) (hd : decode cc pc = .ok (.ishl, 1)) (h : gx o rt post (gCx l G A d) pc L st σ kn kj (.ishl)) (Hn : ∀ L2 st2 σ2, kn L2 st2 σ2 → gWx p l e R s m args below meth c cells slots Q G A nL (pc + 1) L2 st2 σ2) : gWx p l e R s m args below meth c cells slots Q G A nL pc L st σ := by
  obtain ⟨hx, hb, hml, hown, hts, hK, hSt, hG, hcat, hR, hc1, hc2⟩ := id E
  obtain ⟨a, b, r, rfl, h⟩ := p_ii_inv h
  intro hs hl H locs ls hP hS hL
  exact lv_ishl hx hb hd (Hn _ _ _ h ⟨trivial, hs.2.2⟩ hl H locs ls hP hS hL)
theorem s_ishr (E : gEv p R s m args c G A o cc nL d cells slots) (hd : decode cc pc = .ok (.ishr, 1)) (h : gx o rt post (gCx l G A d) pc L st σ kn kj (.ishr)) (Hn : ∀ L2 st2 σ2, kn L2 st2 σ2 → gWx p l e R s m args below meth c cells slots Q G A nL (pc + 1) L2 st2 σ2) : gWx p l e R s m args below meth c cells slots Q G A nL pc L st σ := by
  obtain ⟨hx, hb, hml, hown, hts, hK, hSt, hG, hcat, hR, hc1, hc2⟩ := id E
  obtain ⟨a, b, r, rfl, h⟩ := p_ii_inv h
  intro hs hl H locs ls hP hS hL
  exact lv_ishr hx hb hd (Hn _ _ _ h ⟨trivial, hs.2.2⟩ hl H locs ls hP hS hL)
theorem s_iushr (E : gEv p R s m args c G A o cc nL d cells slots) (hd : decode cc pc = .ok (.iushr, 1)) (h : gx o rt post (gCx l G A d) pc L st σ kn kj (.iushr)) (Hn : ∀ L2 st2 σ2, kn L2 st2 σ2 → gWx p l e R s m args below meth c cells slots Q G A nL (pc + 1) L2 st2 σ2) : gWx p l e R s m args below meth c cells slots Q G A nL pc L st σ := by
  obtain ⟨hx, hb, hml, hown, hts, hK, hSt, hG, hcat, hR, hc1, hc2⟩ := id E
  obtain ⟨a, b, r, rfl, h⟩ := p_ii_inv h
  intro hs hl H locs ls hP hS hL
  exact lv_iushr hx hb hd rfl (Hn _ _ _ h ⟨trivial, hs.2.2⟩ hl H locs ls hP hS hL)
theorem s_idiv (E : gEv p R s m args c G A o cc nL d cells slots) (hd : decode cc pc = .ok (.idiv, 1)) (h : gx o rt post (gCx l G A d) pc L st σ kn kj (.idiv)) (Hn : ∀ L2 st2 σ2, kn L2 st2 σ2 → gWx p l e R s m args below meth c cells slots Q G A nL (pc + 1) L2 st2 σ2) : gWx p l e R s m args below meth c cells slots Q G A nL pc L st σ := by
  obtain ⟨hx, hb, hml, hown, hts, hK, hSt, hG, hcat, hR, hc1, hc2⟩ := id E
  obtain ⟨a, b, r, rfl, hne, h⟩ := p_ii_inv h
  intro hs hl H locs ls hP hS hL
  exact lv_idiv hx hb hd hne (Hn _ _ _ h ⟨trivial, hs.2.2⟩ hl H locs ls hP hS hL)
theorem s_irem (E : gEv p R s m args c G A o cc nL d cells slots) (hd : decode cc pc = .ok (.irem, 1)) (h : gx o rt post (gCx l G A d) pc L st σ kn kj (.irem)) (Hn : ∀ L2 st2 σ2, kn L2 st2 σ2 → gWx p l e R s m args below meth c cells slots Q G A nL (pc + 1) L2 st2 σ2) : gWx p l e R s m args below meth c cells slots Q G A nL pc L st σ := by
  obtain ⟨hx, hb, hml, hown, hts, hK, hSt, hG, hcat, hR, hc1, hc2⟩ := id E
  obtain ⟨a, b, r, rfl, hne, h⟩ := p_ii_inv h
  intro hs hl H locs ls hP hS hL
  exact lv_irem hx hb hd hne (Hn _ _ _ h ⟨trivial, hs.2.2⟩ hl H locs ls hP hS hL)
theorem s_ladd (E : gEv p R s m args c G A o cc nL d cells slots) (hd : decode cc pc = .ok (.ladd, 1)) (h : gx o rt post (gCx l G A d) pc L st σ kn kj (.ladd)) (Hn : ∀ L2 st2 σ2, kn L2 st2 σ2 → gWx p l e R s m args below meth c cells slots Q G A nL (pc + 1) L2 st2 σ2) : gWx p l e R s m args below meth c cells slots Q G A nL pc L st σ := by
  obtain ⟨hx, hb, hml, hown, hts, hK, hSt, hG, hcat, hR, hc1, hc2⟩ := id E
  obtain ⟨a, b, r, rfl, h⟩ := p_ll_inv h
  intro hs hl H locs ls hP hS hL
  exact lv_ladd hx hb hd (Hn _ _ _ h ⟨trivial, hs.2.2⟩ hl H locs ls hP hS hL)
theorem s_lsub (E : gEv p R s m args c G A o cc nL d cells slots) (hd : decode cc pc = .ok (.lsub, 1)) (h : gx o rt post (gCx l G A d) pc L st σ kn kj (.lsub)) (Hn : ∀ L2 st2 σ2, kn L2 st2 σ2 → gWx p l e R s m args below meth c cells slots Q G A nL (pc + 1) L2 st2 σ2) : gWx p l e R s m args below meth c cells slots Q G A nL pc L st σ := by
  obtain ⟨hx, hb, hml, hown, hts, hK, hSt, hG, hcat, hR, hc1, hc2⟩ := id E
  obtain ⟨a, b, r, rfl, h⟩ := p_ll_inv h
  intro hs hl H locs ls hP hS hL
  exact lv_lsub hx hb hd (Hn _ _ _ h ⟨trivial, hs.2.2⟩ hl H locs ls hP hS hL)
theorem s_lmul (E : gEv p R s m args c G A o cc nL d cells slots) (hd : decode cc pc = .ok (.lmul, 1)) (h : gx o rt post (gCx l G A d) pc L st σ kn kj (.lmul)) (Hn : ∀ L2 st2 σ2, kn L2 st2 σ2 → gWx p l e R s m args below meth c cells slots Q G A nL (pc + 1) L2 st2 σ2) : gWx p l e R s m args below meth c cells slots Q G A nL pc L st σ := by
  obtain ⟨hx, hb, hml, hown, hts, hK, hSt, hG, hcat, hR, hc1, hc2⟩ := id E
  obtain ⟨a, b, r, rfl, h⟩ := p_ll_inv h
  intro hs hl H locs ls hP hS hL
  exact lv_lmul hx hb hd (Hn _ _ _ h ⟨trivial, hs.2.2⟩ hl H locs ls hP hS hL)
theorem s_land (E : gEv p R s m args c G A o cc nL d cells slots) (hd : decode cc pc = .ok (.land, 1)) (h : gx o rt post (gCx l G A d) pc L st σ kn kj (.land)) (Hn : ∀ L2 st2 σ2, kn L2 st2 σ2 → gWx p l e R s m args below meth c cells slots Q G A nL (pc + 1) L2 st2 σ2) : gWx p l e R s m args below meth c cells slots Q G A nL pc L st σ := by
  obtain ⟨hx, hb, hml, hown, hts, hK, hSt, hG, hcat, hR, hc1, hc2⟩ := id E
  obtain ⟨a, b, r, rfl, h⟩ := p_ll_inv h
  intro hs hl H locs ls hP hS hL
  exact lv_land hx hb hd (Hn _ _ _ h ⟨trivial, hs.2.2⟩ hl H locs ls hP hS hL)
theorem s_lor (E : gEv p R s m args c G A o cc nL d cells slots) (hd : decode cc pc = .ok (.lor, 1)) (h : gx o rt post (gCx l G A d) pc L st σ kn kj (.lor)) (Hn : ∀ L2 st2 σ2, kn L2 st2 σ2 → gWx p l e R s m args below meth c cells slots Q G A nL (pc + 1) L2 st2 σ2) : gWx p l e R s m args below meth c cells slots Q G A nL pc L st σ := by
  obtain ⟨hx, hb, hml, hown, hts, hK, hSt, hG, hcat, hR, hc1, hc2⟩ := id E
  obtain ⟨a, b, r, rfl, h⟩ := p_ll_inv h
  intro hs hl H locs ls hP hS hL
  exact lv_lor hx hb hd (Hn _ _ _ h ⟨trivial, hs.2.2⟩ hl H locs ls hP hS hL)
theorem s_lcmp (E : gEv p R s m args c G A o cc nL d cells slots) (hd : decode cc pc = .ok (.lcmp, 1)) (h : gx o rt post (gCx l G A d) pc L st σ kn kj (.lcmp)) (Hn : ∀ L2 st2 σ2, kn L2 st2 σ2 → gWx p l e R s m args below meth c cells slots Q G A nL (pc + 1) L2 st2 σ2) : gWx p l e R s m args below meth c cells slots Q G A nL pc L st σ := by
  obtain ⟨hx, hb, hml, hown, hts, hK, hSt, hG, hcat, hR, hc1, hc2⟩ := id E
  obtain ⟨a, b, r, rfl, h⟩ := p_ll_inv h
  intro hs hl H locs ls hP hS hL
  exact W.lcmp hx hb hd (Hn _ _ _ h ⟨trivial, hs.2.2⟩ hl H locs ls hP hS hL)
theorem s_ldiv (E : gEv p R s m args c G A o cc nL d cells slots) (hd : decode cc pc = .ok (.ldiv, 1)) (h : gx o rt post (gCx l G A d) pc L st σ kn kj (.ldiv)) (Hn : ∀ L2 st2 σ2, kn L2 st2 σ2 → gWx p l e R s m args below meth c cells slots Q G A nL (pc + 1) L2 st2 σ2) : gWx p l e R s m args below meth c cells slots Q G A nL pc L st σ := by
  obtain ⟨hx, hb, hml, hown, hts, hK, hSt, hG, hcat, hR, hc1, hc2⟩ := id E
  obtain ⟨a, b, r, rfl, hne, h⟩ := p_ll_inv h
  intro hs hl H locs ls hP hS hL
  exact lv_ldiv hx hb hd hne (Hn _ _ _ h ⟨trivial, hs.2.2⟩ hl H locs ls hP hS hL)
theorem s_lrem (E : gEv p R s m args c G A o cc nL d cells slots) (hd : decode cc pc = .ok (.lrem, 1)) (h : gx o rt post (gCx l G A d) pc L st σ kn kj (.lrem)) (Hn : ∀ L2 st2 σ2, kn L2 st2 σ2 → gWx p l e R s m args below meth c cells slots Q G A nL (pc + 1) L2 st2 σ2) : gWx p l e R s m args below meth c cells slots Q G A nL pc L st σ := by
  obtain ⟨hx, hb, hml, hown, hts, hK, hSt, hG, hcat, hR, hc1, hc2⟩ := id E
  obtain ⟨a, b, r, rfl, hne, h⟩ := p_ll_inv h
  intro hs hl H locs ls hP hS hL
  exact lv_lrem hx hb hd hne (Hn _ _ _ h ⟨trivial, hs.2.2⟩ hl H locs ls hP hS hL)
theorem s_lshl (E : gEv p R s m args c G A o cc nL d cells slots) (hd : decode cc pc = .ok (.lshl, 1)) (h : gx o rt post (gCx l G A d) pc L st σ kn kj (.lshl)) (Hn : ∀ L2 st2 σ2, kn L2 st2 σ2 → gWx p l e R s m args below meth c cells slots Q G A nL (pc + 1) L2 st2 σ2) : gWx p l e R s m args below meth c cells slots Q G A nL pc L st σ := by
  obtain ⟨hx, hb, hml, hown, hts, hK, hSt, hG, hcat, hR, hc1, hc2⟩ := id E
  obtain ⟨a, b, r, rfl, h⟩ := p_li_inv h
  intro hs hl H locs ls hP hS hL
  exact lv_lshl hx hb hd rfl (Hn _ _ _ h ⟨trivial, hs.2.2⟩ hl H locs ls hP hS hL)
theorem s_lshr (E : gEv p R s m args c G A o cc nL d cells slots) (hd : decode cc pc = .ok (.lshr, 1)) (h : gx o rt post (gCx l G A d) pc L st σ kn kj (.lshr)) (Hn : ∀ L2 st2 σ2, kn L2 st2 σ2 → gWx p l e R s m args below meth c cells slots Q G A nL (pc + 1) L2 st2 σ2) : gWx p l e R s m args below meth c cells slots Q G A nL pc L st σ := by
  obtain ⟨hx, hb, hml, hown, hts, hK, hSt, hG, hcat, hR, hc1, hc2⟩ := id E
  obtain ⟨a, b, r, rfl, h⟩ := p_li_inv h
  intro hs hl H locs ls hP hS hL
  exact lv_lshr hx hb hd rfl (Hn _ _ _ h ⟨trivial, hs.2.2⟩ hl H locs ls hP hS hL)
theorem s_lushr (E : gEv p R s m args c G A o cc nL d cells slots) (hd : decode cc pc = .ok (.lushr, 1)) (h : gx o rt post (gCx l G A d) pc L st σ kn kj (.lushr)) (Hn : ∀ L2 st2 σ2, kn L2 st2 σ2 → gWx p l e R s m args below meth c cells slots Q G A nL (pc + 1) L2 st2 σ2) : gWx p l e R s m args below meth c cells slots Q G A nL pc L st σ := by
  obtain ⟨hx, hb, hml, hown, hts, hK, hSt, hG, hcat, hR, hc1, hc2⟩ := id E
  obtain ⟨a, b, r, rfl, h⟩ := p_li_inv h
  intro hs hl H locs ls hP hS hL
  exact lv_lushr hx hb hd rfl (Hn _ _ _ h ⟨trivial, hs.2.2⟩ hl H locs ls hP hS hL)
theorem s_i2l (E : gEv p R s m args c G A o cc nL d cells slots) (hd : decode cc pc = .ok (.i2l, 1)) (h : gx o rt post (gCx l G A d) pc L st σ kn kj (.i2l)) (Hn : ∀ L2 st2 σ2, kn L2 st2 σ2 → gWx p l e R s m args below meth c cells slots Q G A nL (pc + 1) L2 st2 σ2) : gWx p l e R s m args below meth c cells slots Q G A nL pc L st σ := by
  obtain ⟨hx, hb, hml, hown, hts, hK, hSt, hG, hcat, hR, hc1, hc2⟩ := id E
  obtain ⟨a, r, rfl, h⟩ := p_i_inv h
  intro hs hl H locs ls hP hS hL
  exact lv_i2l hx hb hd rfl (Hn _ _ _ h ⟨trivial, hs.2⟩ hl H locs ls hP hS hL)
theorem s_i2b (E : gEv p R s m args c G A o cc nL d cells slots) (hd : decode cc pc = .ok (.i2b, 1)) (h : gx o rt post (gCx l G A d) pc L st σ kn kj (.i2b)) (Hn : ∀ L2 st2 σ2, kn L2 st2 σ2 → gWx p l e R s m args below meth c cells slots Q G A nL (pc + 1) L2 st2 σ2) : gWx p l e R s m args below meth c cells slots Q G A nL pc L st σ := by
  obtain ⟨hx, hb, hml, hown, hts, hK, hSt, hG, hcat, hR, hc1, hc2⟩ := id E
  obtain ⟨a, r, rfl, h⟩ := p_i_inv h
  intro hs hl H locs ls hP hS hL
  exact lv_i2b hx hb hd rfl (Hn _ _ _ h ⟨trivial, hs.2⟩ hl H locs ls hP hS hL)
theorem s_i2s (E : gEv p R s m args c G A o cc nL d cells slots) (hd : decode cc pc = .ok (.i2s, 1)) (h : gx o rt post (gCx l G A d) pc L st σ kn kj (.i2s)) (Hn : ∀ L2 st2 σ2, kn L2 st2 σ2 → gWx p l e R s m args below meth c cells slots Q G A nL (pc + 1) L2 st2 σ2) : gWx p l e R s m args below meth c cells slots Q G A nL pc L st σ := by
  obtain ⟨hx, hb, hml, hown, hts, hK, hSt, hG, hcat, hR, hc1, hc2⟩ := id E
  obtain ⟨a, r, rfl, h⟩ := p_i_inv h
  intro hs hl H locs ls hP hS hL
  exact lv_i2s hx hb hd rfl (Hn _ _ _ h ⟨trivial, hs.2⟩ hl H locs ls hP hS hL)
theorem s_i2c (E : gEv p R s m args c G A o cc nL d cells slots) (hd : decode cc pc = .ok (.i2c, 1)) (h : gx o rt post (gCx l G A d) pc L st σ kn kj (.i2c)) (Hn : ∀ L2 st2 σ2, kn L2 st2 σ2 → gWx p l e R s m args below meth c cells slots Q G A nL (pc + 1) L2 st2 σ2) : gWx p l e R s m args below meth c cells slots Q G A nL pc L st σ := by
  obtain ⟨hx, hb, hml, hown, hts, hK, hSt, hG, hcat, hR, hc1, hc2⟩ := id E
  obtain ⟨a, r, rfl, h⟩ := p_i_inv h
  intro hs hl H locs ls hP hS hL
  exact lv_i2c hx hb hd rfl (Hn _ _ _ h ⟨trivial, hs.2⟩ hl H locs ls hP hS hL)
theorem s_ineg (E : gEv p R s m args c G A o cc nL d cells slots) (hd : decode cc pc = .ok (.ineg, 1)) (h : gx o rt post (gCx l G A d) pc L st σ kn kj (.ineg)) (Hn : ∀ L2 st2 σ2, kn L2 st2 σ2 → gWx p l e R s m args below meth c cells slots Q G A nL (pc + 1) L2 st2 σ2) : gWx p l e R s m args below meth c cells slots Q G A nL pc L st σ := by
  obtain ⟨hx, hb, hml, hown, hts, hK, hSt, hG, hcat, hR, hc1, hc2⟩ := id E
  obtain ⟨a, r, rfl, h⟩ := p_i_inv h
  intro hs hl H locs ls hP hS hL
  exact lv_ineg hx hb hd (Hn _ _ _ h ⟨trivial, hs.2⟩ hl H locs ls hP hS hL)
theorem s_lneg (E : gEv p R s m args c G A o cc nL d cells slots) (hd : decode cc pc = .ok (.lneg, 1)) (h : gx o rt post (gCx l G A d) pc L st σ kn kj (.lneg)) (Hn : ∀ L2 st2 σ2, kn L2 st2 σ2 → gWx p l e R s m args below meth c cells slots Q G A nL (pc + 1) L2 st2 σ2) : gWx p l e R s m args below meth c cells slots Q G A nL pc L st σ := by
  obtain ⟨hx, hb, hml, hown, hts, hK, hSt, hG, hcat, hR, hc1, hc2⟩ := id E
  obtain ⟨a, r, rfl, h⟩ := p_l_inv h
  intro hs hl H locs ls hP hS hL
  exact lv_lneg hx hb hd (Hn _ _ _ h ⟨trivial, hs.2⟩ hl H locs ls hP hS hL)
theorem s_l2i (E : gEv p R s m args c G A o cc nL d cells slots) (hd : decode cc pc = .ok (.l2i, 1)) (h : gx o rt post (gCx l G A d) pc L st σ kn kj (.l2i)) (Hn : ∀ L2 st2 σ2, kn L2 st2 σ2 → gWx p l e R s m args below meth c cells slots Q G A nL (pc + 1) L2 st2 σ2) : gWx p l e R s m args below meth c cells slots Q G A nL pc L st σ := by
  obtain ⟨hx, hb, hml, hown, hts, hK, hSt, hG, hcat, hR, hc1, hc2⟩ := id E
  obtain ⟨a, r, rfl, h⟩ := p_l_inv h
  intro hs hl H locs ls hP hS hL
  exact lv_l2i hx hb hd rfl (Hn _ _ _ h ⟨trivial, hs.2⟩ hl H locs ls hP hS hL)
theorem s_dup (E : gEv p R s m args c G A o cc nL d cells slots) (hd : decode cc pc = .ok (.dup, 1)) (h : gx o rt post (gCx l G A d) pc L st σ kn kj (.dup)) (Hn : ∀ L2 st2 σ2, kn L2 st2 σ2 → gWx p l e R s m args below meth c cells slots Q G A nL (pc + 1) L2 st2 σ2) : gWx p l e R s m args below meth c cells slots Q G A nL pc L st σ := by
  obtain ⟨hx, hb, hml, hown, hts, hK, hSt, hG, hcat, hR, hc1, hc2⟩ := id E
  obtain ⟨v, r, rfl, h⟩ := p_v_inv h
  obtain ⟨hc, h⟩ := p_if h
  intro hs hl H locs ls hP hS hL
  exact lv_dup hx hb hd ((gv_cat hcat v).trans hc) (Hn _ _ _ h ⟨hs.1, hs⟩ hl H locs ls hP hS hL)
theorem s_pop (E : gEv p R s m args c G A o cc nL d cells slots) (hd : decode cc pc = .ok (.pop, 1)) (h : gx o rt post (gCx l G A d) pc L st σ kn kj (.pop)) (Hn : ∀ L2 st2 σ2, kn L2 st2 σ2 → gWx p l e R s m args below meth c cells slots Q G A nL (pc + 1) L2 st2 σ2) : gWx p l e R s m args below meth c cells slots Q G A nL pc L st σ := by
  obtain ⟨hx, hb, hml, hown, hts, hK, hSt, hG, hcat, hR, hc1, hc2⟩ := id E
  obtain ⟨v, r, rfl, h⟩ := p_v_inv h
  obtain ⟨hc, h⟩ := p_if h
  intro hs hl H locs ls hP hS hL
  exact lv_pop hx hb hd ((gv_cat hcat v).trans hc) (Hn _ _ _ h hs.2 hl H locs ls hP hS hL)
theorem s_dup2 (E : gEv p R s m args c G A o cc nL d cells slots) (hd : decode cc pc = .ok (.dup2, 1)) (h : gx o rt post (gCx l G A d) pc L st σ kn kj (.dup2)) (Hn : ∀ L2 st2 σ2, kn L2 st2 σ2 → gWx p l e R s m args below meth c cells slots Q G A nL (pc + 1) L2 st2 σ2) : gWx p l e R s m args below meth c cells slots Q G A nL pc L st σ := by
  obtain ⟨hx, hb, hml, hown, hts, hK, hSt, hG, hcat, hR, hc1, hc2⟩ := id E
  obtain ⟨f, i, j, r, rfl, h⟩ := p_ri_inv h
  obtain ⟨hf, h⟩ := p_nif h
  intro hs hl H locs ls hP hS hL
  exact lv_dup2_11 hx hb hd rfl (gv_cat hcat (.inr (.inr (f, i)))) (Hn _ _ _ h ⟨trivial, hs.2.1, trivial, hs.2.1, hs.2.2⟩ hl H locs ls hP hS hL)
theorem s_goto {off : Int} (E : gEv p R s m args c G A o cc nL d cells slots) (hd : decode cc pc = .ok (.goto off, 3)) (hj : gjok pc (.goto off) = true) (h : gx o rt post (gCx l G A d) pc L st σ kn kj (.goto off)) (Hn : ∀ L2 st2 σ2, kn L2 st2 σ2 → gWx p l e R s m args below meth c cells slots Q G A nL (pc + 3) L2 st2 σ2) (Hj : ∀ pc2 L2 st2 σ2, kj pc2 L2 st2 σ2 → gWx p l e R s m args below meth c cells slots Q G A nL pc2 L2 st2 σ2) : gWx p l e R s m args below meth c cells slots Q G A nL pc L st σ := by
  obtain ⟨hx, hb, hml, hown, hts, hK, hSt, hG, hcat, hR, hc1, hc2⟩ := id E
  intro hs hl H locs ls hP hS hL
  exact lv_goto hx hb hd (gtg_eq hj) (Hj _ _ _ _ h hs hl H locs ls hP hS hL)
theorem s_if_eq {off : Int} (E : gEv p R s m args c G A o cc nL d cells slots) (hd : decode cc pc = .ok (.ifCond .eq off, 3)) (hj : gjok pc (.ifCond .eq off) = true) (h : gx o rt post (gCx l G A d) pc L st σ kn kj (.ifCond .eq off)) (Hn : ∀ L2 st2 σ2, kn L2 st2 σ2 → gWx p l e R s m args below meth c cells slots Q G A nL (pc + 3) L2 st2 σ2) (Hj : ∀ pc2 L2 st2 σ2, kj pc2 L2 st2 σ2 → gWx p l e R s m args below meth c cells slots Q G A nL pc2 L2 st2 σ2) : gWx p l e R s m args below meth c cells slots Q G A nL pc L st σ := by
  obtain ⟨hx, hb, hml, hown, hts, hK, hSt, hG, hcat, hR, hc1, hc2⟩ := id E
  obtain ⟨a, r, rfl, h⟩ := p_i_inv h
  intro hs hl H locs ls hP hS hL
  exact lv_if_eq hx hb hd (gtg_eq hj) (fun q => Hj _ _ _ _ (h.1 q) hs.2 hl H locs ls hP hS hL) (fun q => Hn _ _ _ (h.2 q) hs.2 hl H locs ls hP hS hL)
theorem s_icmp_eq {off : Int} (E : gEv p R s m args c G A o cc nL d cells slots) (hd : decode cc pc = .ok (.if_icmp .eq off, 3)) (hj : gjok pc (.if_icmp .eq off) = true) (h : gx o rt post (gCx l G A d) pc L st σ kn kj (.if_icmp .eq off)) (Hn : ∀ L2 st2 σ2, kn L2 st2 σ2 → gWx p l e R s m args below meth c cells slots Q G A nL (pc + 3) L2 st2 σ2) (Hj : ∀ pc2 L2 st2 σ2, kj pc2 L2 st2 σ2 → gWx p l e R s m args below meth c cells slots Q G A nL pc2 L2 st2 σ2) : gWx p l e R s m args below meth c cells slots Q G A nL pc L st σ := by
  obtain ⟨hx, hb, hml, hown, hts, hK, hSt, hG, hcat, hR, hc1, hc2⟩ := id E
  obtain ⟨a, b, r, rfl, h⟩ := p_ii_inv h
  intro hs hl H locs ls hP hS hL
  exact lv_icmp_eq hx hb hd (gtg_eq hj) (fun q => Hj _ _ _ _ (h.1 q) hs.2.2 hl H locs ls hP hS hL) (fun q => Hn _ _ _ (h.2 q) hs.2.2 hl H locs ls hP hS hL)
theorem s_if_ne {off : Int} (E : gEv p R s m args c G A o cc nL d cells slots) (hd : decode cc pc = .ok (.ifCond .ne off, 3)) (hj : gjok pc (.ifCond .ne off) = true) (h : gx o rt post (gCx l G A d) pc L st σ kn kj (.ifCond .ne off)) (Hn : ∀ L2 st2 σ2, kn L2 st2 σ2 → gWx p l e R s m args below meth c cells slots Q G A nL (pc + 3) L2 st2 σ2) (Hj : ∀ pc2 L2 st2 σ2, kj pc2 L2 st2 σ2 → gWx p l e R s m args below meth c cells slots Q G A nL pc2 L2 st2 σ2) : gWx p l e R s m args below meth c cells slots Q G A nL pc L st σ := by
  obtain ⟨hx, hb, hml, hown, hts, hK, hSt, hG, hcat, hR, hc1, hc2⟩ := id E
  obtain ⟨a, r, rfl, h⟩ := p_i_inv h
  intro hs hl H locs ls hP hS hL
  exact lv_if_ne hx hb hd (gtg_eq hj) (fun q => Hj _ _ _ _ (h.1 q) hs.2 hl H locs ls hP hS hL) (fun q => Hn _ _ _ (h.2 q) hs.2 hl H locs ls hP hS hL)
theorem s_icmp_ne {off : Int} (E : gEv p R s m args c G A o cc nL d cells slots) (hd : decode cc pc = .ok (.if_icmp .ne off, 3)) (hj : gjok pc (.if_icmp .ne off) = true) (h : gx o rt post (gCx l G A d) pc L st σ kn kj (.if_icmp .ne off)) (Hn : ∀ L2 st2 σ2, kn L2 st2 σ2 → gWx p l e R s m args below meth c cells slots Q G A nL (pc + 3) L2 st2 σ2) (Hj : ∀ pc2 L2 st2 σ2, kj pc2 L2 st2 σ2 → gWx p l e R s m args below meth c cells slots Q G A nL pc2 L2 st2 σ2) : gWx p l e R s m args below meth c cells slots Q G A nL pc L st σ := by
  obtain ⟨hx, hb, hml, hown, hts, hK, hSt, hG, hcat, hR, hc1, hc2⟩ := id E
  obtain ⟨a, b, r, rfl, h⟩ := p_ii_inv h
  intro hs hl H locs ls hP hS hL
  exact lv_icmp_ne hx hb hd (gtg_eq hj) (fun q => Hj _ _ _ _ (h.1 q) hs.2.2 hl H locs ls hP hS hL) (fun q => Hn _ _ _ (h.2 q) hs.2.2 hl H locs ls hP hS hL)
theorem s_if_lt {off : Int} (E : gEv p R s m args c G A o cc nL d cells slots) (hd : decode cc pc = .ok (.ifCond .lt off, 3)) (hj : gjok pc (.ifCond .lt off) = true) (h : gx o rt post (gCx l G A d) pc L st σ kn kj (.ifCond .lt off)) (Hn : ∀ L2 st2 σ2, kn L2 st2 σ2 → gWx p l e R s m args below meth c cells slots Q G A nL (pc + 3) L2 st2 σ2) (Hj : ∀ pc2 L2 st2 σ2, kj pc2 L2 st2 σ2 → gWx p l e R s m args below meth c cells slots Q G A nL pc2 L2 st2 σ2) : gWx p l e R s m args below meth c cells slots Q G A nL pc L st σ := by
  obtain ⟨hx, hb, hml, hown, hts, hK, hSt, hG, hcat, hR, hc1, hc2⟩ := id E
  obtain ⟨a, r, rfl, h⟩ := p_i_inv h
  intro hs hl H locs ls hP hS hL
  exact lv_if_lt hx hb hd (gtg_eq hj) (fun q => Hj _ _ _ _ (h.1 q) hs.2 hl H locs ls hP hS hL) (fun q => Hn _ _ _ (h.2 q) hs.2 hl H locs ls hP hS hL)
theorem s_icmp_lt {off : Int} (E : gEv p R s m args c G A o cc nL d cells slots) (hd : decode cc pc = .ok (.if_icmp .lt off, 3)) (hj : gjok pc (.if_icmp .lt off) = true) (h : gx o rt post (gCx l G A d) pc L st σ kn kj (.if_icmp .lt off)) (Hn : ∀ L2 st2 σ2, kn L2 st2 σ2 → gWx p l e R s m args below meth c cells slots Q G A nL (pc + 3) L2 st2 σ2) (Hj : ∀ pc2 L2 st2 σ2, kj pc2 L2 st2 σ2 → gWx p l e R s m args below meth c cells slots Q G A nL pc2 L2 st2 σ2) : gWx p l e R s m args below meth c cells slots Q G A nL pc L st σ := by
  obtain ⟨hx, hb, hml, hown, hts, hK, hSt, hG, hcat, hR, hc1, hc2⟩ := id E
  obtain ⟨a, b, r, rfl, h⟩ := p_ii_inv h
  intro hs hl H locs ls hP hS hL
  exact lv_icmp_lt hx hb hd (gtg_eq hj) (fun q => Hj _ _ _ _ (h.1 q) hs.2.2 hl H locs ls hP hS hL) (fun q => Hn _ _ _ (h.2 q) hs.2.2 hl H locs ls hP hS hL)
theorem s_if_ge {off : Int} (E : gEv p R s m args c G A o cc nL d cells slots) (hd : decode cc pc = .ok (.ifCond .ge off, 3)) (hj : gjok pc (.ifCond .ge off) = true) (h : gx o rt post (gCx l G A d) pc L st σ kn kj (.ifCond .ge off)) (Hn : ∀ L2 st2 σ2, kn L2 st2 σ2 → gWx p l e R s m args below meth c cells slots Q G A nL (pc + 3) L2 st2 σ2) (Hj : ∀ pc2 L2 st2 σ2, kj pc2 L2 st2 σ2 → gWx p l e R s m args below meth c cells slots Q G A nL pc2 L2 st2 σ2) : gWx p l e R s m args below meth c cells slots Q G A nL pc L st σ := by
  obtain ⟨hx, hb, hml, hown, hts, hK, hSt, hG, hcat, hR, hc1, hc2⟩ := id E
  obtain ⟨a, r, rfl, h⟩ := p_i_inv h
  intro hs hl H locs ls hP hS hL
  exact lv_if_ge hx hb hd (gtg_eq hj) (fun q => Hj _ _ _ _ (h.1 q) hs.2 hl H locs ls hP hS hL) (fun q => Hn _ _ _ (h.2 q) hs.2 hl H locs ls hP hS hL)
theorem s_icmp_ge {off : Int} (E : gEv p R s m args c G A o cc nL d cells slots) (hd : decode cc pc = .ok (.if_icmp .ge off, 3)) (hj : gjok pc (.if_icmp .ge off) = true) (h : gx o rt post (gCx l G A d) pc L st σ kn kj (.if_icmp .ge off)) (Hn : ∀ L2 st2 σ2, kn L2 st2 σ2 → gWx p l e R s m args below meth c cells slots Q G A nL (pc + 3) L2 st2 σ2) (Hj : ∀ pc2 L2 st2 σ2, kj pc2 L2 st2 σ2 → gWx p l e R s m args below meth c cells slots Q G A nL pc2 L2 st2 σ2) : gWx p l e R s m args below meth c cells slots Q G A nL pc L st σ := by
  obtain ⟨hx, hb, hml, hown, hts, hK, hSt, hG, hcat, hR, hc1, hc2⟩ := id E
  obtain ⟨a, b, r, rfl, h⟩ := p_ii_inv h
  intro hs hl H locs ls hP hS hL
  exact lv_icmp_ge hx hb hd (gtg_eq hj) (fun q => Hj _ _ _ _ (h.1 q) hs.2.2 hl H locs ls hP hS hL) (fun q => Hn _ _ _ (h.2 q) hs.2.2 hl H locs ls hP hS hL)
theorem s_if_gt {off : Int} (E : gEv p R s m args c G A o cc nL d cells slots) (hd : decode cc pc = .ok (.ifCond .gt off, 3)) (hj : gjok pc (.ifCond .gt off) = true) (h : gx o rt post (gCx l G A d) pc L st σ kn kj (.ifCond .gt off)) (Hn : ∀ L2 st2 σ2, kn L2 st2 σ2 → gWx p l e R s m args below meth c cells slots Q G A nL (pc + 3) L2 st2 σ2) (Hj : ∀ pc2 L2 st2 σ2, kj pc2 L2 st2 σ2 → gWx p l e R s m args below meth c cells slots Q G A nL pc2 L2 st2 σ2) : gWx p l e R s m args below meth c cells slots Q G A nL pc L st σ := by
  obtain ⟨hx, hb, hml, hown, hts, hK, hSt, hG, hcat, hR, hc1, hc2⟩ := id E
  obtain ⟨a, r, rfl, h⟩ := p_i_inv h
  intro hs hl H locs ls hP hS hL
  exact lv_if_gt hx hb hd (gtg_eq hj) (fun q => Hj _ _ _ _ (h.1 q) hs.2 hl H locs ls hP hS hL) (fun q => Hn _ _ _ (h.2 q) hs.2 hl H locs ls hP hS hL)
theorem s_icmp_gt {off : Int} (E : gEv p R s m args c G A o cc nL d cells slots) (hd : decode cc pc = .ok (.if_icmp .gt off, 3)) (hj : gjok pc (.if_icmp .gt off) = true) (h : gx o rt post (gCx l G A d) pc L st σ kn kj (.if_icmp .gt off)) (Hn : ∀ L2 st2 σ2, kn L2 st2 σ2 → gWx p l e R s m args below meth c cells slots Q G A nL (pc + 3) L2 st2 σ2) (Hj : ∀ pc2 L2 st2 σ2, kj pc2 L2 st2 σ2 → gWx p l e R s m args below meth c cells slots Q G A nL pc2 L2 st2 σ2) : gWx p l e R s m args below meth c cells slots Q G A nL pc L st σ := by
  obtain ⟨hx, hb, hml, hown, hts, hK, hSt, hG, hcat, hR, hc1, hc2⟩ := id E
  obtain ⟨a, b, r, rfl, h⟩ := p_ii_inv h
  intro hs hl H locs ls hP hS hL
  exact lv_icmp_gt hx hb hd (gtg_eq hj) (fun q => Hj _ _ _ _ (h.1 q) hs.2.2 hl H locs ls hP hS hL) (fun q => Hn _ _ _ (h.2 q) hs.2.2 hl H locs ls hP hS hL)
theorem s_if_le {off : Int} (E : gEv p R s m args c G A o cc nL d cells slots) (hd : decode cc pc = .ok (.ifCond .le off, 3)) (hj : gjok pc (.ifCond .le off) = true) (h : gx o rt post (gCx l G A d) pc L st σ kn kj (.ifCond .le off)) (Hn : ∀ L2 st2 σ2, kn L2 st2 σ2 → gWx p l e R s m args below meth c cells slots Q G A nL (pc + 3) L2 st2 σ2) (Hj : ∀ pc2 L2 st2 σ2, kj pc2 L2 st2 σ2 → gWx p l e R s m args below meth c cells slots Q G A nL pc2 L2 st2 σ2) : gWx p l e R s m args below meth c cells slots Q G A nL pc L st σ := by
  obtain ⟨hx, hb, hml, hown, hts, hK, hSt, hG, hcat, hR, hc1, hc2⟩ := id E
  obtain ⟨a, r, rfl, h⟩ := p_i_inv h
  intro hs hl H locs ls hP hS hL
  exact lv_if_le hx hb hd (gtg_eq hj) (fun q => Hj _ _ _ _ (h.1 q) hs.2 hl H locs ls hP hS hL) (fun q => Hn _ _ _ (h.2 q) hs.2 hl H locs ls hP hS hL)
theorem s_icmp_le {off : Int} (E : gEv p R s m args c G A o cc nL d cells slots) (hd : decode cc pc = .ok (.if_icmp .le off, 3)) (hj : gjok pc (.if_icmp .le off) = true) (h : gx o rt post (gCx l G A d) pc L st σ kn kj (.if_icmp .le off)) (Hn : ∀ L2 st2 σ2, kn L2 st2 σ2 → gWx p l e R s m args below meth c cells slots Q G A nL (pc + 3) L2 st2 σ2) (Hj : ∀ pc2 L2 st2 σ2, kj pc2 L2 st2 σ2 → gWx p l e R s m args below meth c cells slots Q G A nL pc2 L2 st2 σ2) : gWx p l e R s m args below meth c cells slots Q G A nL pc L st σ := by
  obtain ⟨hx, hb, hml, hown, hts, hK, hSt, hG, hcat, hR, hc1, hc2⟩ := id E
  obtain ⟨a, b, r, rfl, h⟩ := p_ii_inv h
  intro hs hl H locs ls hP hS hL
  exact lv_icmp_le hx hb hd (gtg_eq hj) (fun q => Hj _ _ _ _ (h.1 q) hs.2.2 hl H locs ls hP hS hL) (fun q => Hn _ _ _ (h.2 q) hs.2.2 hl H locs ls hP hS hL)
theorem s_table {dd lo hi : Int} {offs : Array Int} {n : Nat} (E : gEv p R s m args c G A o cc nL d cells slots) (hd : decode cc pc = .ok (.tableswitch dd lo hi offs, n)) (hj : gjok pc (.tableswitch dd lo hi offs) = true) (h : gx o rt post (gCx l G A d) pc L st σ kn kj (.tableswitch dd lo hi offs)) (Hn : ∀ L2 st2 σ2, kn L2 st2 σ2 → gWx p l e R s m args below meth c cells slots Q G A nL (pc + n) L2 st2 σ2) (Hj : ∀ pc2 L2 st2 σ2, kj pc2 L2 st2 σ2 → gWx p l e R s m args below meth c cells slots Q G A nL pc2 L2 st2 σ2) : gWx p l e R s m args below meth c cells slots Q G A nL pc L st σ := by
  obtain ⟨hx, hb, hml, hown, hts, hK, hSt, hG, hcat, hR, hc1, hc2⟩ := id E
  obtain ⟨a, r, rfl, h0, h⟩ := p_i_inv h
  intro hs hl H locs ls hP hS hL
  unfold gjok at hj
  rw [Bool.and_eq_true, Bool.and_eq_true] at hj
  obtain ⟨⟨hj1, hj2⟩, hj3⟩ := hj
  have hj3 := of_decide_eq_true hj3
  by_cases hz : a.toInt < lo ∨ hi < a.toInt
  · exact lv_tableOut hx hb hd hz (gtg_eq hj1) (Hj _ _ _ _ (h0 hz) hs.2 hl H locs ls hP hS hL)
  · have h1 : ¬ a.toInt < lo := fun q => hz (Or.inl q)
    have h2 : ¬ hi < a.toInt := fun q => hz (Or.inr q)
    have hlt : (a.toInt - lo).toNat < offs.toList.length := by omega
    obtain ⟨off, hoff⟩ : ∃ off, offs.toList[(a.toInt - lo).toNat]? = some off := ⟨_, List.getElem?_eq_getElem hlt⟩
    exact lv_tableIn hx hb hd h1 h2 (by rw [← Array.getElem?_toList]; exact hoff) (gtg_eq (List.all_eq_true.mp hj2 off (List.mem_of_getElem? hoff))) (Hj _ _ _ _ (gsw_at h (by omega) hoff) hs.2 hl H locs ls hP hS hL)

theorem glk_at {x d : Int} {k : Int → Prop} : ∀ {ps : List (Int × Int)}, glk x d k ps → k (Op.lookupswitch.offset ps d x)
  | [], h => h
  | q :: r, h => by
    obtain ⟨a, b⟩ := q
    by_cases hx : x = a
    · have e : Op.lookupswitch.offset ((a, b) :: r) d x = b := by simp [Op.lookupswitch.offset, hx]
      rw [e]
      exact h.1 hx
    · have e : Op.lookupswitch.offset ((a, b) :: r) d x = Op.lookupswitch.offset r d x := by
        simp only [Op.lookupswitch.offset]
        rw [if_neg (fun z => hx (Eq.symm z))]
      rw [e]
      exact glk_at (h.2 hx)
theorem glk_in {x d : Int} {pc : Nat} : ∀ {ps : List (Int × Int)}, gjp pc d = true → ps.all (fun q => gjp pc q.2) = true → gjp pc (Op.lookupswitch.offset ps d x) = true := by
  intro ps h1 h2
  have := glk_at (x := x) (d := d) (k := fun off => gjp pc off = true) (ps := ps) ?_
  · exact this
  · induction ps with
    | nil => exact h1
    | cons q r ih =>
      rw [List.all_cons, Bool.and_eq_true] at h2
      exact ⟨fun _ => h2.1, fun _ => ih h2.2⟩
theorem s_lookup {dd : Int} {ps : Array (Int × Int)} {n : Nat} (E : gEv p R s m args c G A o cc nL d cells slots) (hd : decode cc pc = .ok (.lookupswitch dd ps, n)) (hj : gjok pc (.lookupswitch dd ps) = true) (h : gx o rt post (gCx l G A d) pc L st σ kn kj (.lookupswitch dd ps)) (Hn : ∀ L2 st2 σ2, kn L2 st2 σ2 → gWx p l e R s m args below meth c cells slots Q G A nL (pc + n) L2 st2 σ2) (Hj : ∀ pc2 L2 st2 σ2, kj pc2 L2 st2 σ2 → gWx p l e R s m args below meth c cells slots Q G A nL pc2 L2 st2 σ2) : gWx p l e R s m args below meth c cells slots Q G A nL pc L st σ := by
  obtain ⟨hx, hb, hml, hown, hts, hK, hSt, hG, hcat, hR, hc1, hc2⟩ := id E
  obtain ⟨a, r, rfl, h⟩ := p_i_inv h
  intro hs hl H locs ls hP hS hL
  unfold gjok at hj
  rw [Bool.and_eq_true, Bool.and_eq_true] at hj
  obtain ⟨⟨hj1, hj2⟩, hj3⟩ := hj
  exact lv_lookup hx hb hd hj3 rfl (gtg_eq (glk_in hj1 hj2)) (Hj _ _ _ _ (glk_at h) hs.2 hl H locs ls hP hS hL)
theorem gcs_mem {o idx : Nat} {q : Nat × gAV × Nat} (h : gcs o idx = some q) : q.1 = idx ∧ gchkC o q = true := by
  have h1 := List.mem_of_find?_eq_some h
  have h2 := List.find?_some h
  exact ⟨by simpa using h2, gCL_ok o q h1⟩
theorem gfl_mem {o idx : Nat} {q : Nat × Nat × Nat × Nat} (h : gfl o idx = some q) : q.1 = idx ∧ gchkF o q = true := by
  have h1 := List.mem_of_find?_eq_some h
  have h2 := List.find?_some h
  exact ⟨by simpa using h2, gFL_ok o q h1⟩
theorem giv_mem {o idx : Nat} {q : Nat × Nat × Nat × gMY × List Nat} (h : giv o idx = some q) : q.1 = idx ∧ q ∈ gIL o ∧ gchkI o q = true := by
  have h1 := List.mem_of_find?_eq_some h
  have h2 := List.find?_some h
  exact ⟨by simpa using h2, h1, gIL_ok o q h1⟩
theorem gss_mem {o idx : Nat} {q : Nat × Nat × Nat × Nat} (h : gss o idx = some q) : q.1 = o ∧ q.2.1 = idx ∧ q ∈ gSL := by
  have h1 := List.mem_of_find?_eq_some h
  have h2 := List.find?_some h
  simp only [Bool.and_eq_true, beq_iff_eq] at h2
  exact ⟨h2.1, h2.2, h1⟩
theorem gsr_mem {o idx : Nat} {q : Nat × Nat × Nat} (h : gsr o idx = some q) : q.1 = o ∧ q.2.1 = idx ∧ q ∈ gSRL := by
  have h1 := List.mem_of_find?_eq_some h
  have h2 := List.find?_some h
  simp only [Bool.and_eq_true, beq_iff_eq] at h2
  exact ⟨h2.1, h2.2, h1⟩
theorem s_ldc {idx : Nat} (E : gEv p R s m args c G A o cc nL d cells slots) (hd : decode cc pc = .ok (.ldc idx, 2)) (h : gx o rt post (gCx l G A d) pc L st σ kn kj (.ldc idx)) (Hn : ∀ L2 st2 σ2, kn L2 st2 σ2 → gWx p l e R s m args below meth c cells slots Q G A nL (pc + 2) L2 st2 σ2) : gWx p l e R s m args below meth c cells slots Q G A nL pc L st σ := by
  obtain ⟨hx, hb, hml, hown, hts, hK, hSt, hG, hcat, hR, hc1, hc2⟩ := id E
  intro hs hl H locs ls hP hS hL
  replace h : gldc o idx (fun v => kn L (v :: st) σ) := h
  unfold gldc at h
  split at h
  · rename_i q x p0 hq
    obtain ⟨e1, e2⟩ := gcs_mem hq
    dsimp only at e1
    subst e1
    exact lv_ldc hx hb hown (hts _ (gin_ok e2)) hd (Hn _ _ _ h ⟨trivial, hs⟩ hl H locs ls hP hS hL)
  · exact h.elim
  · split at h
    · rename_i q1 q2 k hq
      obtain ⟨e1, e2, e3⟩ := gsr_mem hq
      dsimp only at e1 e2
      subst e1; subst e2
      have hb7 := List.all_eq_true.mp gSRL_ok _ e3
      rw [Bool.and_eq_true] at hb7
      have hb8 : k < 7 := of_decide_eq_true hb7.2
      have hk := Hn _ _ _ h ⟨hb8, hs⟩ hl H locs ls hP hS hL
      rw [List.map_cons, gv_ref (f := 50) (i := k) (by decide)] at hk
      have hZ : vk_R (gcn q1) q2 (gTx k) (G.1 50 k) s := hSt.2.2.2.2.1 (q1, q2, k) e3
      exact va_ldcS hx hb hown hZ hd hk
    · exact h.elim
theorem s_ldc_w {idx : Nat} (E : gEv p R s m args c G A o cc nL d cells slots) (hd : decode cc pc = .ok (.ldc_w idx, 3)) (h : gx o rt post (gCx l G A d) pc L st σ kn kj (.ldc_w idx)) (Hn : ∀ L2 st2 σ2, kn L2 st2 σ2 → gWx p l e R s m args below meth c cells slots Q G A nL (pc + 3) L2 st2 σ2) : gWx p l e R s m args below meth c cells slots Q G A nL pc L st σ := by
  obtain ⟨hx, hb, hml, hown, hts, hK, hSt, hG, hcat, hR, hc1, hc2⟩ := id E
  intro hs hl H locs ls hP hS hL
  replace h : gldw o idx (fun v => kn L (v :: st) σ) := h
  unfold gldw at h
  split at h
  · rename_i q x p0 hq
    obtain ⟨e1, e2⟩ := gcs_mem hq
    dsimp only at e1
    subst e1
    exact lv_ldcw hx hb hown (hts _ (gin_ok e2)) hd (Hn _ _ _ h ⟨trivial, hs⟩ hl H locs ls hP hS hL)
  · exact h.elim
theorem s_ldc2_w {idx : Nat} (E : gEv p R s m args c G A o cc nL d cells slots) (hd : decode cc pc = .ok (.ldc2_w idx, 3)) (h : gx o rt post (gCx l G A d) pc L st σ kn kj (.ldc2_w idx)) (Hn : ∀ L2 st2 σ2, kn L2 st2 σ2 → gWx p l e R s m args below meth c cells slots Q G A nL (pc + 3) L2 st2 σ2) : gWx p l e R s m args below meth c cells slots Q G A nL pc L st σ := by
  obtain ⟨hx, hb, hml, hown, hts, hK, hSt, hG, hcat, hR, hc1, hc2⟩ := id E
  intro hs hl H locs ls hP hS hL
  replace h : gld2 o idx (fun v => kn L (v :: st) σ) := h
  unfold gld2 at h
  split at h
  · rename_i q x p0 hq
    obtain ⟨e1, e2⟩ := gcs_mem hq
    dsimp only at e1
    subst e1
    exact lv_ldc2 hx hb hown (hts _ (gin_ok e2)) hd (Hn _ _ _ h ⟨trivial, hs⟩ hl H locs ls hP hS hL)
  · exact h.elim
end SND
