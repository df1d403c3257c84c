/-! THE ABSTRACT MACHINE: what an instruction asks (a predicate transformer), over numbers, cells by family and place, and a store -/
abbrev gG : Type := (Nat → Nat → Nat) × (Nat → ClassId) × va_G × Value
/-- one place of the store -/
def gsu (σ : gT) (f i j : Nat) (x : Int32) : gT := (fun a b c => if a = f ∧ b = i ∧ c = j then x else σ.1 a b c, σ.2)
def gsl (σ : gT) (f i j : Nat) (x : Int64) : gT := (σ.1, fun a b c => if a = f ∧ b = i ∧ c = j then x else σ.2 a b c)
/-- a row copied: n ints from place sp of the row (f, i) to place dp of the row (g, k) -/
def gsc (σ : gT) (f i sp g k dp n : Nat) : gT := (fun a b c => if a = g ∧ b = k ∧ dp ≤ c ∧ c < dp + n then σ.1 f i (sp + (c - dp)) else σ.1 a b c, σ.2)
def gcat : gAV → Nat
  | .inr (.inl _) => 2
  | _ => 1
def gcats : gSk → Nat
  | [] => 0
  | v :: r => gcat v + gcats r
/-- the long whose second half stands at i goes -/
def gkl (L : gLo) (i : Nat) : gLo := match i with
  | 0 => L
  | j + 1 => match L[j]? with
    | some (some (.inr (.inl _))) => L.set j none
    | _ => L
/-- the locals behind a store -/
def gst (L : gLo) (i : Nat) (v : gAV) : gLo :=
  match v with
  | .inr (.inl _) => ((gkl L i).set i (some v)).set (i + 1) none
  | _ => (gkl L i).set i (some v)
/-- a method's locals at its entry -/
def gen1 : List gAV → gLo
  | [] => []
  | .inr (.inl y) :: r => some (.inr (.inl y)) :: none :: gen1 r
  | v :: r => some v :: gen1 r
def gen (n : Nat) (vs : List gAV) : gLo := gen1 vs ++ List.replicate (n - (gen1 vs).length) none
def gci (n : Int) : Int32 := match n with
  | .ofNat k => Int32.ofNat k
  | .negSucc k => -(Int32.ofNat (k + 1))
def gtg (pc : Nat) (off : Int) : Nat := ((pc : Int) + off).toNat
-- shapes of the stack
def p_i (st : gSk) (k : Int32 → gSk → Prop) : Prop := match st with
  | .inl a :: r => k a r
  | _ => False
def p_l (st : gSk) (k : Int64 → gSk → Prop) : Prop := match st with
  | .inr (.inl a) :: r => k a r
  | _ => False
def p_r (st : gSk) (k : Nat → Nat → gSk → Prop) : Prop := match st with
  | .inr (.inr (f, i)) :: r => k f i r
  | _ => False
def p_ii (st : gSk) (k : Int32 → Int32 → gSk → Prop) : Prop := match st with
  | .inl b :: .inl a :: r => k a b r
  | _ => False
def p_ll (st : gSk) (k : Int64 → Int64 → gSk → Prop) : Prop := match st with
  | .inr (.inl b) :: .inr (.inl a) :: r => k a b r
  | _ => False
def p_li (st : gSk) (k : Int64 → Int32 → gSk → Prop) : Prop := match st with
  | .inl b :: .inr (.inl a) :: r => k a b r
  | _ => False
def p_ri (st : gSk) (k : Nat → Nat → Int32 → gSk → Prop) : Prop := match st with
  | .inl j :: .inr (.inr (f, i)) :: r => k f i j r
  | _ => False
def p_rii (st : gSk) (k : Nat → Nat → Int32 → Int32 → gSk → Prop) : Prop := match st with
  | .inl x :: .inl j :: .inr (.inr (f, i)) :: r => k f i j x r
  | _ => False
def p_ril (st : gSk) (k : Nat → Nat → Int32 → Int64 → gSk → Prop) : Prop := match st with
  | .inr (.inl x) :: .inl j :: .inr (.inr (f, i)) :: r => k f i j x r
  | _ => False
def p_v (st : gSk) (k : gAV → gSk → Prop) : Prop := match st with
  | v :: r => k v r
  | [] => False
def p_lo (L : gLo) (i : Nat) (k : gAV → Prop) : Prop := match L[i]? with
  | some (some v) => k v
  | _ => False
def p_lI (v : gAV) (k : Int32 → Prop) : Prop := match v with
  | .inl x => k x
  | _ => False
def p_lL (v : gAV) (k : Int64 → Prop) : Prop := match v with
  | .inr (.inl x) => k x
  | _ => False
def p_lR (v : gAV) (k : Nat → Nat → Prop) : Prop := match v with
  | .inr (.inr (f, i)) => k f i
  | _ => False
def gcmp (c : ClassFile.Cond) (a b : Int32) (kt kf : Prop) : Prop := match c with
  | .eq => (a = b → kt) ∧ (¬ a = b → kf)
  | .ne => (¬ a = b → kt) ∧ (a = b → kf)
  | .lt => (a < b → kt) ∧ (¬ a < b → kf)
  | .ge => (b ≤ a → kt) ∧ (¬ b ≤ a → kf)
  | .gt => (b < a → kt) ∧ (¬ b < a → kf)
  | .le => (a ≤ b → kt) ∧ (¬ a ≤ b → kf)
def gif (c : ClassFile.Cond) (a : Int32) (kt kf : Prop) : Prop := match c with
  | .eq => (a = 0 → kt) ∧ (¬ a = 0 → kf)
  | .ne => (¬ a = 0 → kt) ∧ (a = 0 → kf)
  | .lt => (a < 0 → kt) ∧ (¬ a < 0 → kf)
  | .ge => (0 ≤ a → kt) ∧ (¬ 0 ≤ a → kf)
  | .gt => (0 < a → kt) ∧ (¬ 0 < a → kf)
  | .le => (a ≤ 0 → kt) ∧ (¬ a ≤ 0 → kf)
/-- the cases of a switch by its table -/
def gsw (x lo : Int) (k : Int → Prop) : List Int → Prop
  | [] => True
  | off :: r => (x = lo → k off) ∧ gsw x (lo + 1) k r
def glk (x : Int) (d : Int) (k : Int → Prop) : List (Int × Int) → Prop
  | [] => k d
  | q :: r => (x = q.1 → k q.2) ∧ (¬ x = q.1 → glk x d k r)
def gfl (o idx : Nat) : Option (Nat × Nat × Nat × Nat) := (gFL o).find? (fun e => e.1 == idx)
def gcs (o idx : Nat) : Option (Nat × gAV × Nat) := (gCL o).find? (fun e => e.1 == idx)
def giv (o idx : Nat) : Option (Nat × Nat × Nat × gMY × List Nat) := (gIL o).find? (fun e => e.1 == idx)
def gss (o idx : Nat) : Option (Nat × Nat × Nat × Nat) := gSL.find? (fun e => e.1 == o && e.2.1 == idx)
/-- a field read -/
def ggf (o idx f i : Nat) (σ : gT) (k : gAV → Prop) : Prop := match gfl o idx with
  | some (_, ci, j, _) => if f = ci then (match (gF ci)[j]? with
    | some 0 => k (.inl (σ.1 f i j))
    | some 1 => k (.inl (σ.1 f i j))
    | some (g + 2) => k (.inr (.inr (g, i)))
    | none => False) else False
  | none => (match o with
    | 14 => if f = 50 then (if idx = gX_value then k (.inr (.inr (51, i))) else if idx = gX_coder then k (.inl 0) else False) else False
    | _ => False)
def gpf (o idx f i : Nat) (σ : gT) (x : Int32) (k : gT → Prop) : Prop := match gfl o idx with
  | some (_, ci, j, _) => if f = ci then (match (gFin ci)[j]? with
    | some false => (match (gF ci)[j]? with
      | some 0 => k (gsu σ f i j x)
      | some 1 => (x = 0 ∨ x = 1) ∧ k (gsu σ f i j x)
      | _ => False)
    | _ => False) else False
  | none => False
/-- an element of a row of ints (or bytes, kd = 1) -/
def gai (kd f i : Nat) (j : Int32) (σ : gT) (k : gAV → Prop) : Prop := match gA f with
  | some (kd', n, _) => if kd' = kd then vp_in j n ∧ k (.inl (σ.1 f i j.toNatClampNeg)) else False
  | none => if kd = 0 then (vp_in j (gSV f).length ∧ k (.inl ((gSV f).getD j.toNatClampNeg 0))) else (if f = 51 then (vp_in j (gLen.getD i 0) ∧ k (.inl ((gByt.getD i []).getD j.toNatClampNeg 0))) else False)
def gal (f i : Nat) (j : Int32) (σ : gT) (k : gAV → Prop) : Prop := match gA f with
  | some (2, n, _) => vp_in j n ∧ k (.inr (.inl (σ.2 f i j.toNatClampNeg)))
  | _ => False
def gar (f : Nat) (j : Int32) (k : gAV → Prop) : Prop := match gA f with
  | some (kd + 3, n, g) => vp_in j n ∧ k (.inr (.inr (g, j.toNatClampNeg)))
  | _ => False
def gan (f i : Nat) (k : Int32 → Prop) : Prop := match gA f with
  | some (_, n, _) => k (Int32.ofNat n)
  | none => if f = 51 then k (Int32.ofNat (gLen.getD i 0)) else (match gSV f with
    | [] => False
    | a :: r => k (Int32.ofNat (a :: r).length))
def gasi (f i : Nat) (j x : Int32) (σ : gT) (k : gT → Prop) : Prop := match gA f with
  | some (0, n, _) => vp_in j n ∧ k (gsu σ f i j.toNatClampNeg x)
  | _ => False
def gasb (f i : Nat) (j x : Int32) (σ : gT) (k : gT → Prop) : Prop := match gA f with
  | some (1, n, _) => vp_in j n ∧ k (gsu σ f i j.toNatClampNeg (vp_nar .byte x))
  | _ => False
def gasl (f i : Nat) (j : Int32) (x : Int64) (σ : gT) (k : gT → Prop) : Prop := match gA f with
  | some (2, n, _) => vp_in j n ∧ k (gsl σ f i j.toNatClampNeg x)
  | _ => False
/-- a static read -/
def ggs (o idx : Nat) (k : gAV → Prop) : Prop := match gss o idx with
  | some (_, _, f, _) => k (.inr (.inr (f, 0)))
  | none => if o = 14 ∧ idx = gX_COMPACT_STRINGS then k (.inl 1) else if o = 14 ∧ idx = gX_SIOOBE_FORMATTER then k (.inr (.inr (52, 0))) else False
/-- the places of System.arraycopy -/
def gacp (o idx : Nat) : Bool := gACL.any (fun e => e.1 == o && e.2.1 == idx)
/-- a text constant -/
def gsr (o idx : Nat) : Option (Nat × Nat × Nat) := gSRL.find? (fun e => e.1 == o && e.2.1 == idx)
def gcopy (st : gSk) (σ : gT) (k : gSk → gT → Prop) : Prop := match st with
  | .inl n :: .inl dp :: .inr (.inr (g, b)) :: .inl sp :: .inr (.inr (f, a)) :: r => (match gA f, gA g with
    | some (0, n0, _), some (0, n1, _) => ¬ sp < 0 ∧ ¬ dp < 0 ∧ ¬ n < 0 ∧ sp.toNatClampNeg + n.toNatClampNeg ≤ n0 ∧ dp.toNatClampNeg + n.toNatClampNeg ≤ n1 ∧ (if gcats r ≤ 8 then k r (gsc σ f a sp.toNatClampNeg g b dp.toNatClampNeg n.toNatClampNeg) else False)
    | _, _ => False)
  | _ => False
def gfc (f : Nat) : Nat := if f = 50 then 14 else if f < 11 then f else 99
def gcalls (CX : gMY → List gAV → gT → (Option gAV → gT → Prop) → Prop) (o idx : Nat) (st : gSk) (σ : gT) (k : gSk → gT → Prop) : Prop := match giv o idx with
  | some (_, kd, n, my, _) => if (kd = 0 ∨ kd = 2) ∧ n ≤ st.length ∧ gcats (st.drop n) ≤ 8 then CX my (st.take n).reverse σ (fun r σ' => k (r.toList ++ st.drop n) σ') else False
  | none => False
def gcallv (CX : gMY → List gAV → gT → (Option gAV → gT → Prop) → Prop) (o idx : Nat) (st : gSk) (σ : gT) (k : gSk → gT → Prop) : Prop := match giv o idx with
  | some (_, kd, n, my, _) => p_v (st.take n).reverse fun v as => p_lR v fun f i => if kd = 100 + gfc f ∧ n ≤ st.length ∧ gcats (st.drop n) ≤ 8 then CX my (.inr (.inr (f, i)) :: as) σ (fun r σ' => k (r.toList ++ st.drop n) σ') else False
  | none => False
def gretz (rt : Option FieldType) (v : Int32) (k : Prop) : Prop := match rt with
  | some .int => k
  | some .boolean => (v = 0 ∨ v = 1) ∧ k
  | some .byte => v.toInt8.toInt32 = v ∧ k
  | some .char => (v.toUInt32 % 65536).toInt32 = v ∧ k
  | _ => False
/-- constants -/
def gldc (o idx : Nat) (k : gAV → Prop) : Prop := match gcs o idx with
  | some (_, .inl x, _) => k (.inl x)
  | some _ => False
  | none => (match gsr o idx with
    | some (_, _, q) => k (.inr (.inr (50, q)))
    | none => False)
def gldw (o idx : Nat) (k : gAV → Prop) : Prop := match gcs o idx with
  | some (_, .inl x, _) => k (.inl x)
  | _ => False
def gld2 (o idx : Nat) (k : gAV → Prop) : Prop := match gcs o idx with
  | some (_, .inr (.inl x), _) => k (.inr (.inl x))
  | _ => False
/-- what a return asks -/
def gret (rt : Option FieldType) (post : Option gAV → gT → Prop) (st : gSk) (σ : gT) (ii : Instr) : Prop := match ii with
  | .ireturn => (match st with
    | [.inl v] => gretz rt v (post (some (.inl v)) σ)
    | _ => False)
  | .lreturn => (match st, rt with
    | [.inr (.inl v)], some .long => post (some (.inr (.inl v))) σ
    | _, _ => False)
  | .areturn => (match st with
    | [.inr (.inr (f, i))] => if f = 52 then False else (match rt with
      | some (.object _) => post (some (.inr (.inr (f, i)))) σ
      | some (.array _) => post (some (.inr (.inr (f, i)))) σ
      | _ => False)
    | _ => False)
  | .return_ => (match st, rt with
    | [], none => post none σ
    | _, _ => False)
  | _ => False
/-- what an instruction asks: kn goes on behind it, kj at a place -/
def gx (o : Nat) (rt : Option FieldType) (post : Option gAV → gT → Prop) (CX : gMY → List gAV → gT → (Option gAV → gT → Prop) → Prop) (pc : Nat) (L : gLo) (st : gSk) (σ : gT) (kn : gLo → gSk → gT → Prop) (kj : gK) (ii : Instr) : Prop := match ii with
  | .iload_n n => p_lo L (n : Nat) fun v => p_lI v fun x => kn L (.inl x :: st) σ
  | .iload n => p_lo L n fun v => p_lI v fun x => kn L (.inl x :: st) σ
  | .lload_n n => p_lo L (n : Nat) fun v => p_lL v fun x => kn L (.inr (.inl x) :: st) σ
  | .lload n => p_lo L n fun v => p_lL v fun x => kn L (.inr (.inl x) :: st) σ
  | .aload_n n => p_lo L (n : Nat) fun v => p_lR v fun f i => if f = 52 then False else kn L (.inr (.inr (f, i)) :: st) σ
  | .aload n => p_lo L n fun v => p_lR v fun f i => if f = 52 then False else kn L (.inr (.inr (f, i)) :: st) σ
  | .istore_n n => p_i st fun a r => if (n : Nat) < L.length then kn (gst L (n : Nat) (.inl a)) r σ else False
  | .istore n => p_i st fun a r => if n < L.length then kn (gst L n (.inl a)) r σ else False
  | .lstore_n n => p_l st fun a r => if (n : Nat) + 1 < L.length then kn (gst L (n : Nat) (.inr (.inl a))) r σ else False
  | .lstore n => p_l st fun a r => if n + 1 < L.length then kn (gst L n (.inr (.inl a))) r σ else False
  | .astore_n n => p_r st fun f i r => if f = 52 then False else if (n : Nat) < L.length then kn (gst L (n : Nat) (.inr (.inr (f, i)))) r σ else False
  | .astore n => p_r st fun f i r => if f = 52 then False else if n < L.length then kn (gst L n (.inr (.inr (f, i)))) r σ else False
  | .iinc n k => p_lo L n fun v => p_lI v fun x => if n < L.length then kn (gst L n (.inl (x + gci k))) st σ else False
  | .iconst k => kn L (.inl (gci k) :: st) σ
  | .bipush k => kn L (.inl (gci k) :: st) σ
  | .sipush k => kn L (.inl (gci k) :: st) σ
  | .lconst k => kn L (.inr (.inl (Int64.ofNat (k : Nat))) :: st) σ
  | .ldc idx => gldc o idx fun v => kn L (v :: st) σ
  | .ldc_w idx => gldw o idx fun v => kn L (v :: st) σ
  | .ldc2_w idx => gld2 o idx fun v => kn L (v :: st) σ
  | .iadd => p_ii st fun a b r => kn L (.inl (a + b) :: r) σ
  | .isub => p_ii st fun a b r => kn L (.inl (a - b) :: r) σ
  | .imul => p_ii st fun a b r => kn L (.inl (a * b) :: r) σ
  | .iand => p_ii st fun a b r => kn L (.inl (a &&& b) :: r) σ
  | .ior => p_ii st fun a b r => kn L (.inl (a ||| b) :: r) σ
  | .idiv => p_ii st fun a b r => ¬ b = 0 ∧ kn L (.inl (a / b) :: r) σ
  | .irem => p_ii st fun a b r => ¬ b = 0 ∧ kn L (.inl (a - a / b * b) :: r) σ
  | .ishl => p_ii st fun a b r => kn L (.inl (a <<< (b &&& 31)) :: r) σ
  | .ishr => p_ii st fun a b r => kn L (.inl (a >>> (b &&& 31)) :: r) σ
  | .iushr => p_ii st fun a b r => kn L (.inl ((a.toUInt32 >>> (b.toUInt32 &&& Int32.toUInt32 31)).toInt32) :: r) σ
  | .ineg => p_i st fun a r => kn L (.inl (-a) :: r) σ
  | .ladd => p_ll st fun a b r => kn L (.inr (.inl (a + b)) :: r) σ
  | .lsub => p_ll st fun a b r => kn L (.inr (.inl (a - b)) :: r) σ
  | .lmul => p_ll st fun a b r => kn L (.inr (.inl (a * b)) :: r) σ
  | .land => p_ll st fun a b r => kn L (.inr (.inl (a &&& b)) :: r) σ
  | .lor => p_ll st fun a b r => kn L (.inr (.inl (a ||| b)) :: r) σ
  | .ldiv => p_ll st fun a b r => ¬ b = 0 ∧ kn L (.inr (.inl (a / b)) :: r) σ
  | .lrem => p_ll st fun a b r => ¬ b = 0 ∧ kn L (.inr (.inl (a - a / b * b)) :: r) σ
  | .lneg => p_l st fun a r => kn L (.inr (.inl (-a)) :: r) σ
  | .lshl => p_li st fun a b r => kn L (.inr (.inl (a <<< (b.toInt64 &&& 63))) :: r) σ
  | .lshr => p_li st fun a b r => kn L (.inr (.inl (a >>> (b.toInt64 &&& 63))) :: r) σ
  | .lushr => p_li st fun a b r => kn L (.inr (.inl ((a.toUInt64 >>> (b.toInt64.toUInt64 &&& Int64.toUInt64 63)).toInt64)) :: r) σ
  | .lcmp => p_ll st fun a b r => kn L (.inl (lg_cmp a b) :: r) σ
  | .i2l => p_i st fun a r => kn L (.inr (.inl a.toInt64) :: r) σ
  | .l2i => p_l st fun a r => kn L (.inl a.toInt32 :: r) σ
  | .i2b => p_i st fun a r => kn L (.inl a.toInt8.toInt32 :: r) σ
  | .i2s => p_i st fun a r => kn L (.inl a.toInt16.toInt32 :: r) σ
  | .i2c => p_i st fun a r => kn L (.inl (a.toUInt32 % 65536).toInt32 :: r) σ
  | .dup => p_v st fun v r => if gcat v = 1 then kn L (v :: v :: r) σ else False
  | .pop => p_v st fun v r => if gcat v = 1 then kn L r σ else False
  | .dup2 => p_ri st fun f i j r => if f = 52 then False else kn L (.inl j :: .inr (.inr (f, i)) :: .inl j :: .inr (.inr (f, i)) :: r) σ
  | .goto off => kj (gtg pc off) L st σ
  | .ifCond c off => p_i st fun a r => gif c a (kj (gtg pc off) L r σ) (kn L r σ)
  | .if_icmp c off => p_ii st fun a b r => gcmp c a b (kj (gtg pc off) L r σ) (kn L r σ)
  | .tableswitch d lo hi offs => p_i st fun a r => (a.toInt < lo ∨ hi < a.toInt → kj (gtg pc d) L r σ) ∧ gsw a.toInt lo (fun off => kj (gtg pc off) L r σ) offs.toList
  | .lookupswitch d ps => p_i st fun a r => glk a.toInt d (fun off => kj (gtg pc off) L r σ) ps.toList
  | .getfield idx => p_r st fun f i r => ggf o idx f i σ fun v => kn L (v :: r) σ
  | .putfield idx => p_v st fun v r => p_lI v fun x => p_r r fun f i r => gpf o idx f i σ x fun σ' => kn L r σ'
  | .iaload => p_ri st fun f i j r => gai 0 f i j σ fun v => kn L (v :: r) σ
  | .baload => p_ri st fun f i j r => gai 1 f i j σ fun v => kn L (v :: r) σ
  | .laload => p_ri st fun f i j r => gal f i j σ fun v => kn L (v :: r) σ
  | .aaload => p_ri st fun f _ j r => gar f j fun v => kn L (v :: r) σ
  | .iastore => p_rii st fun f i j x r => gasi f i j x σ fun σ' => kn L r σ'
  | .bastore => p_rii st fun f i j x r => gasb f i j x σ fun σ' => kn L r σ'
  | .lastore => p_ril st fun f i j x r => gasl f i j x σ fun σ' => kn L r σ'
  | .arraylength => p_r st fun f i r => gan f i fun v => kn L (.inl v :: r) σ
  | .getstatic idx => ggs o idx fun v => kn L (v :: st) σ
  | .invokestatic idx => (match gacp o idx with
    | true => gcopy st σ fun r σ' => kn L r σ'
    | false => gcalls CX o idx st σ fun r σ' => kn L r σ')
  | .invokevirtual idx => gcallv CX o idx st σ fun r σ' => kn L r σ'
  | .ireturn => gret rt post st σ .ireturn
  | .lreturn => gret rt post st σ .lreturn
  | .areturn => gret rt post st σ .areturn
  | .return_ => gret rt post st σ .return_
  | _ => False
/-- a block of instructions -/
def gwl (o : Nat) (rt : Option FieldType) (post : Option gAV → gT → Prop) (CX : gMY → List gAV → gT → (Option gAV → gT → Prop) → Prop) (kj : gK) : List (Instr × Nat) → gK
  | [] => kj
  | q :: cs => fun pc L st σ => gx o rt post CX pc L st σ (gwl o rt post CX kj cs (pc + q.2)) kj q.1
