/-! SOUNDNESS: returns, all instructions, blocks; a contract out of a method's blocks -/
section SND
variable {p : Program} {l : Launch} {e : Env} {R : Room} {s : State} {m : MethodId} {args : Array Value} {below : List Frame} {meth : Method} {c : Code} {cells slots : Nat} {Q : State → Prop} {G : gG} {A : Nat → Prop} {nL o d : Nat} {cc : ByteArray} {rt : Option FieldType} {post : Option gAV → gT → Prop} {pc : Nat} {L : gLo} {st : gSk} {σ : gT} {kn : gLo → gSk → gT → Prop} {kj : gK}
theorem s_ret {ii : Instr} (E : gEv p R s m args c G A o cc nL d 0 0) (hr : meth.sig.returnType = rt) (hlk : meth.locks = false) (hd : decode cc pc = .ok (ii, 1)) (h : gret rt post st σ ii) : gWx p l e R s m args below meth c 0 0 (MQ below (gQ G A post) args s 0 0 A) G A nL pc L st σ := by
  obtain ⟨hx, hb, hml, hown, hts, hK, hSt, hG, hcat, hR, hc1, hc2⟩ := id E
  intro hs hl H locs ls hP hS hL
  unfold gret at h
  split at h
  · split at h
    · rename_i v
      have key : ∀ ty, rt = some ty → narrow ty (.int v) = .int v → post (some (.inl v)) σ → W p l e R s m args below meth c H locs 0 0 (MQ below (gQ G A post) args s 0 0 A) (F0 m pc ls [.int v]) := fun ty hty hn hp => W.zret hx hb (hr.trans hty) hn (fun t ht hW => ⟨some (.inl v), σ, rfl, trivial, hp, by rw [ht]; exact hP, hS.F ht⟩) hS.2.2 hd hlk
      unfold gretz at h
      split at h
      · exact key _ rfl rfl h
      · exact key _ rfl (by rcases h.1 with rfl | rfl <;> rfl) h.2
      · exact key _ rfl (by rw [← h.1]; exact pk_nb _) h.2
      · exact key _ rfl (by rw [← h.1]; exact pk_nc _) h.2
      · exact h.elim
    · exact h.elim
  · split at h
    · rename_i v
      exact W.lret hx hb hr (fun t ht hW => ⟨some (.inr (.inl v)), σ, rfl, trivial, h, by rw [ht]; exact hP, hS.F ht⟩) hS.2.2 hd hlk
    · exact h.elim
  · split at h
    · rename_i f i
      obtain ⟨hf, h⟩ := p_nif h
      have key : ∀ ty, rt = some ty → ((∃ n, ty = .object n) ∨ ∃ t, ty = .array t) → post (some (.inr (.inr (f, i)))) σ → W p l e R s m args below meth c H locs 0 0 (MQ below (gQ G A post) args s 0 0 A) (F0 m pc ls [gv G (.inr (.inr (f, i)))]) := fun ty hty hn hp => W.aret hx hb (hr.trans hty) hn (Or.inr ⟨_, gv_ref hf⟩) (fun t ht hW => ⟨some (.inr (.inr (f, i))), σ, rfl, hs.1, hp, by rw [ht]; exact hP, hS.F ht⟩) hS.2.2 hd hlk
      split at h
      · exact key _ rfl (Or.inl ⟨_, rfl⟩) h
      · exact key _ rfl (Or.inr ⟨_, rfl⟩) h
      · exact h.elim
    · exact h.elim
  · split at h
    · exact W.vret hx hb hr (fun t ht hW => ⟨none, σ, rfl, trivial, h, by rw [ht]; exact hP, hS.F ht⟩) hS.2.2 hd hlk
    · exact h.elim
  · exact h.elim
set_option maxHeartbeats 4000000 in
theorem gx_sound (E : gEv p R s m args c G A o cc nL d cells slots) (HR : ∀ (pc : Nat) (L : gLo) (st : gSk) (σ : gT) (ii : Instr), decode cc pc = .ok (ii, 1) → gret rt post st σ ii → gWx p l e R s m args below meth c cells slots Q G A nL pc L st σ) (q : Instr × Nat) (hc : gchk cc pc q = true) (h : gx o rt post (gCx l G A d) pc L st σ kn kj q.1) (Hn : ∀ L2 st2 σ2, kn L2 st2 σ2 → gWx p l e R s m args below meth c cells slots Q G A nL (pc + q.2) L2 st2 σ2) (Hj : ∀ pc2 L2 st2 σ2, kj pc2 L2 st2 σ2 → gWx p l e R s m args below meth c cells slots Q G A nL pc2 L2 st2 σ2) : gWx p l e R s m args below meth c cells slots Q G A nL pc L st σ := by
  obtain ⟨ii, n⟩ := q
  unfold gchk at hc
  simp only [Bool.and_eq_true, decide_eq_true_eq, Bool.or_eq_true, beq_iff_eq] at hc
  obtain ⟨⟨hd, hn⟩, hj⟩ := hc
  dsimp only at h Hn hd hn hj
  cases ii with
  | iload_n _ => cases (hn.resolve_left (show ¬ (1 : Nat) = 0 by decide) : 1 = n); exact s_iload_n E hd h Hn
  | iload _ => cases (hn.resolve_left (show ¬ (2 : Nat) = 0 by decide) : 2 = n); exact s_iload E hd h Hn
  | lload_n _ => cases (hn.resolve_left (show ¬ (1 : Nat) = 0 by decide) : 1 = n); exact s_lload_n E hd h Hn
  | lload _ => cases (hn.resolve_left (show ¬ (2 : Nat) = 0 by decide) : 2 = n); exact s_lload E hd h Hn
  | aload_n _ => cases (hn.resolve_left (show ¬ (1 : Nat) = 0 by decide) : 1 = n); exact s_aload_n E hd h Hn
  | aload _ => cases (hn.resolve_left (show ¬ (2 : Nat) = 0 by decide) : 2 = n); exact s_aload E hd h Hn
  | istore_n _ => cases (hn.resolve_left (show ¬ (1 : Nat) = 0 by decide) : 1 = n); exact s_istore_n E hd h Hn
  | istore _ => cases (hn.resolve_left (show ¬ (2 : Nat) = 0 by decide) : 2 = n); exact s_istore E hd h Hn
  | lstore_n _ => cases (hn.resolve_left (show ¬ (1 : Nat) = 0 by decide) : 1 = n); exact s_lstore_n E hd h Hn
  | lstore _ => cases (hn.resolve_left (show ¬ (2 : Nat) = 0 by decide) : 2 = n); exact s_lstore E hd h Hn
  | astore_n _ => cases (hn.resolve_left (show ¬ (1 : Nat) = 0 by decide) : 1 = n); exact s_astore_n E hd h Hn
  | astore _ => cases (hn.resolve_left (show ¬ (2 : Nat) = 0 by decide) : 2 = n); exact s_astore E hd h Hn
  | iinc _ _ => cases (hn.resolve_left (show ¬ (3 : Nat) = 0 by decide) : 3 = n); exact s_iinc E hd hj h Hn
  | iconst _ => cases (hn.resolve_left (show ¬ (1 : Nat) = 0 by decide) : 1 = n); exact s_iconst E hd hj h Hn
  | bipush _ => cases (hn.resolve_left (show ¬ (2 : Nat) = 0 by decide) : 2 = n); exact s_bipush E hd hj h Hn
  | sipush _ => cases (hn.resolve_left (show ¬ (3 : Nat) = 0 by decide) : 3 = n); exact s_sipush E hd hj h Hn
  | lconst _ => cases (hn.resolve_left (show ¬ (1 : Nat) = 0 by decide) : 1 = n); exact s_lconst E hd h Hn
  | ldc _ => cases (hn.resolve_left (show ¬ (2 : Nat) = 0 by decide) : 2 = n); exact s_ldc E hd h Hn
  | ldc_w _ => cases (hn.resolve_left (show ¬ (3 : Nat) = 0 by decide) : 3 = n); exact s_ldc_w E hd h Hn
  | ldc2_w _ => cases (hn.resolve_left (show ¬ (3 : Nat) = 0 by decide) : 3 = n); exact s_ldc2_w E hd h Hn
  | iadd  => cases (hn.resolve_left (show ¬ (1 : Nat) = 0 by decide) : 1 = n); exact s_iadd E hd h Hn
  | isub  => cases (hn.resolve_left (show ¬ (1 : Nat) = 0 by decide) : 1 = n); exact s_isub E hd h Hn
  | imul  => cases (hn.resolve_left (show ¬ (1 : Nat) = 0 by decide) : 1 = n); exact s_imul E hd h Hn
  | iand  => cases (hn.resolve_left (show ¬ (1 : Nat) = 0 by decide) : 1 = n); exact s_iand E hd h Hn
  | ior  => cases (hn.resolve_left (show ¬ (1 : Nat) = 0 by decide) : 1 = n); exact s_ior E hd h Hn
  | idiv  => cases (hn.resolve_left (show ¬ (1 : Nat) = 0 by decide) : 1 = n); exact s_idiv E hd h Hn
  | irem  => cases (hn.resolve_left (show ¬ (1 : Nat) = 0 by decide) : 1 = n); exact s_irem E hd h Hn
  | ishl  => cases (hn.resolve_left (show ¬ (1 : Nat) = 0 by decide) : 1 = n); exact s_ishl E hd h Hn
  | ishr  => cases (hn.resolve_left (show ¬ (1 : Nat) = 0 by decide) : 1 = n); exact s_ishr E hd h Hn
  | iushr  => cases (hn.resolve_left (show ¬ (1 : Nat) = 0 by decide) : 1 = n); exact s_iushr E hd h Hn
  | ineg  => cases (hn.resolve_left (show ¬ (1 : Nat) = 0 by decide) : 1 = n); exact s_ineg E hd h Hn
  | ladd  => cases (hn.resolve_left (show ¬ (1 : Nat) = 0 by decide) : 1 = n); exact s_ladd E hd h Hn
  | lsub  => cases (hn.resolve_left (show ¬ (1 : Nat) = 0 by decide) : 1 = n); exact s_lsub E hd h Hn
  | lmul  => cases (hn.resolve_left (show ¬ (1 : Nat) = 0 by decide) : 1 = n); exact s_lmul E hd h Hn
  | land  => cases (hn.resolve_left (show ¬ (1 : Nat) = 0 by decide) : 1 = n); exact s_land E hd h Hn
  | lor  => cases (hn.resolve_left (show ¬ (1 : Nat) = 0 by decide) : 1 = n); exact s_lor E hd h Hn
  | ldiv  => cases (hn.resolve_left (show ¬ (1 : Nat) = 0 by decide) : 1 = n); exact s_ldiv E hd h Hn
  | lrem  => cases (hn.resolve_left (show ¬ (1 : Nat) = 0 by decide) : 1 = n); exact s_lrem E hd h Hn
  | lneg  => cases (hn.resolve_left (show ¬ (1 : Nat) = 0 by decide) : 1 = n); exact s_lneg E hd h Hn
  | lshl  => cases (hn.resolve_left (show ¬ (1 : Nat) = 0 by decide) : 1 = n); exact s_lshl E hd h Hn
  | lshr  => cases (hn.resolve_left (show ¬ (1 : Nat) = 0 by decide) : 1 = n); exact s_lshr E hd h Hn
  | lushr  => cases (hn.resolve_left (show ¬ (1 : Nat) = 0 by decide) : 1 = n); exact s_lushr E hd h Hn
  | lcmp  => cases (hn.resolve_left (show ¬ (1 : Nat) = 0 by decide) : 1 = n); exact s_lcmp E hd h Hn
  | i2l  => cases (hn.resolve_left (show ¬ (1 : Nat) = 0 by decide) : 1 = n); exact s_i2l E hd h Hn
  | l2i  => cases (hn.resolve_left (show ¬ (1 : Nat) = 0 by decide) : 1 = n); exact s_l2i E hd h Hn
  | i2b  => cases (hn.resolve_left (show ¬ (1 : Nat) = 0 by decide) : 1 = n); exact s_i2b E hd h Hn
  | i2s  => cases (hn.resolve_left (show ¬ (1 : Nat) = 0 by decide) : 1 = n); exact s_i2s E hd h Hn
  | i2c  => cases (hn.resolve_left (show ¬ (1 : Nat) = 0 by decide) : 1 = n); exact s_i2c E hd h Hn
  | dup  => cases (hn.resolve_left (show ¬ (1 : Nat) = 0 by decide) : 1 = n); exact s_dup E hd h Hn
  | pop  => cases (hn.resolve_left (show ¬ (1 : Nat) = 0 by decide) : 1 = n); exact s_pop E hd h Hn
  | dup2  => cases (hn.resolve_left (show ¬ (1 : Nat) = 0 by decide) : 1 = n); exact s_dup2 E hd h Hn
  | iaload  => cases (hn.resolve_left (show ¬ (1 : Nat) = 0 by decide) : 1 = n); exact s_iaload E hd h Hn
  | baload  => cases (hn.resolve_left (show ¬ (1 : Nat) = 0 by decide) : 1 = n); exact s_baload E hd h Hn
  | laload  => cases (hn.resolve_left (show ¬ (1 : Nat) = 0 by decide) : 1 = n); exact s_laload E hd h Hn
  | aaload  => cases (hn.resolve_left (show ¬ (1 : Nat) = 0 by decide) : 1 = n); exact s_aaload E hd h Hn
  | iastore  => cases (hn.resolve_left (show ¬ (1 : Nat) = 0 by decide) : 1 = n); exact s_iastore E hd h Hn
  | bastore  => cases (hn.resolve_left (show ¬ (1 : Nat) = 0 by decide) : 1 = n); exact s_bastore E hd h Hn
  | lastore  => cases (hn.resolve_left (show ¬ (1 : Nat) = 0 by decide) : 1 = n); exact s_lastore E hd h Hn
  | arraylength  => cases (hn.resolve_left (show ¬ (1 : Nat) = 0 by decide) : 1 = n); exact s_arraylength E hd h Hn
  | getfield _ => cases (hn.resolve_left (show ¬ (3 : Nat) = 0 by decide) : 3 = n); exact s_getfield E hd h Hn
  | putfield _ => cases (hn.resolve_left (show ¬ (3 : Nat) = 0 by decide) : 3 = n); exact s_putfield E hd h Hn
  | getstatic _ => cases (hn.resolve_left (show ¬ (3 : Nat) = 0 by decide) : 3 = n); exact s_getstatic E hd h Hn
  | invokestatic _ => cases (hn.resolve_left (show ¬ (3 : Nat) = 0 by decide) : 3 = n); exact s_calls E hd h Hn
  | invokevirtual _ => cases (hn.resolve_left (show ¬ (3 : Nat) = 0 by decide) : 3 = n); exact s_callv E hd h Hn
  | goto _ => cases (hn.resolve_left (show ¬ (3 : Nat) = 0 by decide) : 3 = n); exact s_goto E hd hj h Hn Hj
  | ifCond cd _ => cases (hn.resolve_left (show ¬ (3 : Nat) = 0 by decide) : 3 = n); cases cd with
    | eq => exact s_if_eq E hd hj h Hn Hj
    | ne => exact s_if_ne E hd hj h Hn Hj
    | lt => exact s_if_lt E hd hj h Hn Hj
    | ge => exact s_if_ge E hd hj h Hn Hj
    | gt => exact s_if_gt E hd hj h Hn Hj
    | le => exact s_if_le E hd hj h Hn Hj
  | if_icmp cd _ => cases (hn.resolve_left (show ¬ (3 : Nat) = 0 by decide) : 3 = n); cases cd with
    | eq => exact s_icmp_eq E hd hj h Hn Hj
    | ne => exact s_icmp_ne E hd hj h Hn Hj
    | lt => exact s_icmp_lt E hd hj h Hn Hj
    | ge => exact s_icmp_ge E hd hj h Hn Hj
    | gt => exact s_icmp_gt E hd hj h Hn Hj
    | le => exact s_icmp_le E hd hj h Hn Hj
  | tableswitch _ _ _ _ => exact s_table E hd hj h Hn Hj
  | lookupswitch _ _ => exact s_lookup E hd hj h Hn Hj
  | ireturn => cases (hn.resolve_left (show ¬ (1 : Nat) = 0 by decide) : 1 = n); exact HR pc L st σ _ hd h
  | lreturn => cases (hn.resolve_left (show ¬ (1 : Nat) = 0 by decide) : 1 = n); exact HR pc L st σ _ hd h
  | areturn => cases (hn.resolve_left (show ¬ (1 : Nat) = 0 by decide) : 1 = n); exact HR pc L st σ _ hd h
  | return_ => cases (hn.resolve_left (show ¬ (1 : Nat) = 0 by decide) : 1 = n); exact HR pc L st σ _ hd h
  | _ => exact False.elim h
theorem gwl_sound (E : gEv p R s m args c G A o cc nL d cells slots) (HR : ∀ (pc : Nat) (L : gLo) (st : gSk) (σ : gT) (ii : Instr), decode cc pc = .ok (ii, 1) → gret rt post st σ ii → gWx p l e R s m args below meth c cells slots Q G A nL pc L st σ) (Hj : ∀ pc2 L2 st2 σ2, kj pc2 L2 st2 σ2 → gWx p l e R s m args below meth c cells slots Q G A nL pc2 L2 st2 σ2) : ∀ (cs : List (Instr × Nat)) (pc : Nat) (L : gLo) (st : gSk) (σ : gT), gokl cc pc cs = true → gwl o rt post (gCx l G A d) kj cs pc L st σ → gWx p l e R s m args below meth c cells slots Q G A nL pc L st σ
  | [], pc, L, st, σ, _, h => Hj pc L st σ h
  | q :: cs, pc, L, st, σ, hk, h => by
    unfold gokl at hk
    rw [Bool.and_eq_true] at hk
    exact gx_sound E HR q hk.1 h (fun L2 st2 σ2 h2 => gwl_sound E HR Hj cs (pc + q.2) L2 st2 σ2 hk.2 h2) Hj
end SND
/-- locals that are read no more are forgotten -/
def gmsk : List Bool → gLo → gLo
  | b :: bs, v :: L => (match b with
    | true => v
    | false => none) :: gmsk bs L
  | _, L => L
theorem gmsk_len : ∀ (bs : List Bool) (L : gLo), (gmsk bs L).length = L.length
  | [], [] => rfl
  | [], _ :: _ => rfl
  | _ :: _, [] => rfl
  | b :: bs, v :: L => by
    unfold gmsk
    rw [List.length_cons, List.length_cons, gmsk_len bs L]
theorem gmsk_get : ∀ (bs : List Bool) (L : gLo) (i : Nat) (v : gAV), (gmsk bs L)[i]? = some (some v) → L[i]? = some (some v)
  | [], [], _, _, h => h
  | [], _ :: _, _, _, h => h
  | _ :: _, [], _, _, h => h
  | b :: bs, w :: L, i, v, h => by
    unfold gmsk at h
    cases i with
    | zero =>
      rw [List.getElem?_cons_zero] at h ⊢
      cases b
      · cases h
      · exact h
    | succ i =>
      rw [List.getElem?_cons_succ] at h ⊢
      exact gmsk_get bs L i v h
abbrev gTb : Type := List (Nat × List Bool × List (Instr × Nat))
def gbl (tb : gTb) (pc : Nat) : List (Instr × Nat) := match tb.find? (fun e => e.1 == pc) with
  | some e => e.2.2
  | none => []
def gmk (tb : gTb) (pc : Nat) : List Bool := match tb.find? (fun e => e.1 == pc) with
  | some e => e.2.1
  | none => []
theorem gbl_ok {cc : ByteArray} {tb : gTb} (h : tb.all (fun e => gokl cc e.1 e.2.2) = true) (pc : Nat) : gokl cc pc (gbl tb pc) = true := by
  unfold gbl
  split
  · rename_i e he
    have h1 := List.all_eq_true.mp h e (List.mem_of_find?_eq_some he)
    have h2 := List.find?_some he
    rw [← (by simpa using h2 : e.1 = pc)]
    exact h1
  · rfl
/-- Z is closed under what the blocks ask -/
def gSd (l : Launch) (G : gG) (A : Nat → Prop) (d o : Nat) (my : gMY) (tb : gTb) (post : Option gAV → gT → Prop) (Z : gK) : Prop := ∀ (pc : Nat) (L : gLo) (st : gSk) (σ : gT), gwl o my.2.2.2 post (gCx l G A d) (fun pc2 L2 st2 σ2 => Z pc2 (gmsk (gmk tb pc2) L2) st2 σ2) (gbl tb pc) pc L st σ → Z pc L st σ
theorem gen1_sl (G : gG) (hn : G.2.2.2.category = 1) : ∀ (as : List gAV), (lg_sl (as.map (gv G))).length = (gen1 as).length
  | [] => rfl
  | .inl x :: r => by
    have := gen1_sl G hn r
    simp only [lg_sl, List.map_cons, List.flatMap_cons, List.length_append, gen1, List.length_cons] at this ⊢
    rw [this, gv_cat hn]
    simp [gcat]
    omega
  | .inr (.inl x) :: r => by
    have := gen1_sl G hn r
    simp only [lg_sl, List.map_cons, List.flatMap_cons, List.length_append, gen1, List.length_cons] at this ⊢
    rw [this, gv_cat hn]
    simp [gcat]
    omega
  | .inr (.inr x) :: r => by
    have := gen1_sl G hn r
    simp only [lg_sl, List.map_cons, List.flatMap_cons, List.length_append, gen1, List.length_cons] at this ⊢
    rw [this, gv_cat hn]
    simp [gcat]
    omega
theorem gen1_at (G : gG) (hn : G.2.2.2.category = 1) : ∀ (as : List gAV) (k i : Nat) (v : gAV), (gen1 as)[i]? = some (some v) → (k + i, gv G v) ∈ lv_args k (as.map (gv G)) ∧ v ∈ as
  | [], k, i, v, h => by simp [gen1] at h
  | .inl x :: r, k, i, v, h => by
    cases i with
    | zero =>
      simp only [gen1, List.getElem?_cons_zero, Option.some.injEq] at h
      subst h
      exact ⟨by simp [lv_args], List.mem_cons_self⟩
    | succ i =>
      simp only [gen1, List.getElem?_cons_succ] at h
      have h2 := gen1_at G hn r (k + 1) i v h
      refine ⟨?_, List.mem_cons_of_mem _ h2.2⟩
      have e : k + (i + 1) = k + 1 + i := by omega
      rw [e]
      simp only [lv_args, List.map_cons, gv_cat hn, gcat]
      exact List.mem_cons_of_mem _ h2.1
  | .inr (.inr x) :: r, k, i, v, h => by
    cases i with
    | zero =>
      simp only [gen1, List.getElem?_cons_zero, Option.some.injEq] at h
      subst h
      exact ⟨by simp [lv_args], List.mem_cons_self⟩
    | succ i =>
      simp only [gen1, List.getElem?_cons_succ] at h
      have h2 := gen1_at G hn r (k + 1) i v h
      refine ⟨?_, List.mem_cons_of_mem _ h2.2⟩
      have e : k + (i + 1) = k + 1 + i := by omega
      rw [e]
      simp only [lv_args, List.map_cons, gv_cat hn, gcat]
      exact List.mem_cons_of_mem _ h2.1
  | .inr (.inl x) :: r, k, i, v, h => by
    match i, h with
    | 0, h =>
      simp only [gen1, List.getElem?_cons_zero, Option.some.injEq] at h
      subst h
      exact ⟨by simp [lv_args], List.mem_cons_self⟩
    | 1, h =>
      simp only [gen1, List.getElem?_cons_succ, List.getElem?_cons_zero] at h
      cases h
    | i + 2, h =>
      simp only [gen1, List.getElem?_cons_succ] at h
      have h2 := gen1_at G hn r (k + 2) i v h
      refine ⟨?_, List.mem_cons_of_mem _ h2.2⟩
      have e : k + (i + 2) = k + 2 + i := by omega
      rw [e]
      simp only [lv_args, List.map_cons, gv_cat hn, gcat]
      exact List.mem_cons_of_mem _ h2.1
theorem gMet_ofW {l : Launch} {y : MethodName} {ws ws' : List Cond} {rm : Room} {Pc : Array Value → State → Prop} {Qc : Array Value → State → Outcome → State → Prop} {mc ms : Nat} {free : Addr → Prop} {cc : ByteArray} {maxL : Nat} {ret : Option FieldType}
    (hy : plainFor y = true) (hw : ws = Cond.code y cc maxL ret :: ws')
    (body : ∀ p e s m args below meth c s₁, BodyLoose p l y (headSpec ws rm) cc maxL ret e s m args below meth c s₁ → c.maxLocals = maxL → Pc args s →
      W p l e (headSpec ws rm).room s m args below meth c s.heap [] 0 0 (MQ below Qc args s mc ms free) (entryFrame m args maxL)) : Met l y ws rm Pc Qc mc ms free := by
  refine MetFree.of_bodySF (code := cc) (maxLocals := maxL) (ret := ret) hy ?_ ?_
  · intro args s m h hn
    obtain ⟨meth, c, h1, h2, h3, h4, h5, h6, -, -⟩ := Cond.code_spec hn (atoms_spec (ws := ws) h _ (by rw [hw]; exact List.mem_cons_self))
    exact ⟨meth, c, h1, h2, h3, h4, h5, h6⟩
  · intro p e s m args below meth c s₁ B hml hP _
    have hh0 : s₁.heap = s.heap := by rw [B.state]; rfl
    obtain ⟨t, a1, o, b1, b2, b3⟩ := body p e s m args below meth c s₁ B hml hP s₁ hh0 (Stand.of_body B)
    exact ⟨t, o, a1, b1, b2, ⟨b3.1, b3.2⟩⟩
/-- A CONTRACT out of a method's blocks -/
theorem gCx.of {l : Launch} {G : gG} {A : Nat → Prop} {d o : Nat} {my : gMY} {tb : gTb} {as : List gAV} {σ : gT} {post : Option gAV → gT → Prop} (hy : plainFor my.1 = true ∧ my.1.cls = gcn o) (hbl : tb.all (fun e => gokl my.2.1 e.1 e.2.2) = true) (hen : (gen1 as).length ≤ my.2.2.1) (h : ∀ Z : gK, gSd l G A d o my tb post Z → Z 0 (gen my.2.2.1 as) [] σ) : gCx l G A (d + 1) my as σ post := by
  intro hG hcat hvs
  refine gMet_ofW (cc := my.2.1) (maxL := my.2.2.1) (ret := my.2.2.2) hy.1 rfl ?_
  intro p e s m args below meth c s₁ B hml hv
  obtain ⟨rfl, hP, hK, hSt⟩ := hv
  have hts0 := atoms_spec (ws := gws my) B.pre
  have E : gEv p (gRm (d + 1)) s m (as.map (gv G)).toArray c G A o my.2.1 my.2.2.1 d 0 0 := ⟨B.exec, B.bytes, hml, by rw [← hy.2]; exact findClass_of_methodNamed B.named, fun w hw => hts0 w (List.mem_cons_of_mem _ hw), hK, hSt, hG, hcat, ⟨Nat.le_refl _, by show 64 * d + 60 ≤ 64 * (d + 1); omega⟩, Nat.le_refl _, Nat.le_refl _⟩
  have hZ : gSd l G A d o my tb post (gWx p l e (gRm (d + 1)) s m (as.map (gv G)).toArray below meth c 0 0 (MQ below (gQ G A post) (as.map (gv G)).toArray s 0 0 A) G A my.2.2.1) := fun pc L st σ hw => gwl_sound E (fun pc L st σ ii hd hr => s_ret E B.returns B.notSynchronized hd hr) (fun pc2 L2 st2 σ2 z hs hl H locs ls hP hS hL => z hs (fun i v hi => hl i v (gmsk_get _ _ i v hi)) H locs ls hP hS ⟨hL.1, hL.2.1, (gmsk_len _ _).trans hL.2.2.1, fun i v hi => hL.2.2.2 i v (gmsk_get _ _ i v hi)⟩) (gbl tb pc) pc L st σ (gbl_ok hbl pc) hw
  have hlen := gen1_sl G hcat as
  have hle := lv_entry (as.map (gv G)) (n := my.2.2.1) (by rw [hlen]; exact hen)
  rw [lg_entry_eq]
  generalize (lg_sl (as.map (gv G)) ++ List.replicate (my.2.2.1 - (lg_sl (as.map (gv G))).length) Slot.unset).toArray = ls at hle ⊢
  have key : ∀ (i : Nat) (v : gAV), (gen my.2.2.1 as)[i]? = some (some v) → (gen1 as)[i]? = some (some v) := by
    intro i v hi
    unfold gen at hi
    by_cases hl : i < (gen1 as).length
    · rw [List.getElem?_append_left hl] at hi
      exact hi
    · rw [List.getElem?_append_right (by omega)] at hi
      have := List.mem_of_getElem? hi
      rw [List.mem_replicate] at this
      cases this.2
  refine h _ hZ trivial (fun i v hi => ?_) s.heap [] ls hP va_S.rf ⟨hle.1, hle.2.1, ?_, fun i v hi => ?_⟩
  · exact gvs_mem.mp hvs v (gen1_at G hcat as 0 i v (key i v hi)).2
  · unfold gen
    rw [List.length_append, List.length_replicate]
    omega
  · have := (gen1_at G hcat as 0 i v (key i v hi)).1
    rw [Nat.zero_add] at this
    exact hle.2.2 (i, gv G v) this
