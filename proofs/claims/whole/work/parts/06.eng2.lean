/-! the context of a method's run, in one; the abstract machine's judgement zV: at this world, these locals, this stack the machine comes to its end -/
abbrev zCx : Type := Program × Launch × Env × Room × State × MethodId × Array Value × List Frame × Method × Code × (State → Prop) × va_G × (FieldType → Nat) × Nat × Nat × Nat × Nat × Nat
def ztys (gA : FieldType → Nat) : List (ClassId × FieldType) := [(gA .int, .int), (gA .long, .long), (gA .boolean, .boolean), (gA zStd, zStd)]
def zCtx (K : zCx) (own : String) (cc : ByteArray) (d n1 : Nat) (ini : Bool) (sc : Option (Nat × (Nat → Int32))) : Prop := match K with
  | (p, _, _, R, s, m, args, _, meth, c, _, D, gA, base, b, n0, n1', nL) => p.tables.exec = Jvm.exec ∧ c.code = cc ∧ c.maxLocals = nL ∧ s.vm.findClass own = some m.cls ∧ (∀ w ∈ z_good, w.before args s = true) ∧ (∀ w ∈ z_nest, va_Nw w s) ∧ va_AO "StepsShared$Standing" s ∧ va_K D zcl (ztys gA) s ∧ s.heap.size = base + n0 ∧ n1' = n1 ∧ (n1 - n0 ≤ R.cells ∧ zsz n1 - zsz n0 ≤ R.slots ∧ d ≤ R.frames ∧ 64 * d ≤ R.locals) ∧ (ini = true → meth.name = "<init>") ∧ (∀ (L : Nat) (xs : Nat → Int32), sc = some (L, xs) → va_X b L xs s s.heap ∧ b < s.heap.size ∧ b < base)
def zV (K : zCx) (n : Nat) (I : zI) (J : zJ) (P : zP) (pc : Nat) (ls st : List Value) : Prop := match K with
  | (p, l, e, R, s, m, args, below, meth, c, Q, D, gA, base, b, n0, n1, nL) => n0 ≤ n → n ≤ n1 → ls.length = nL → ∀ (H : Heap) (locs : List Loc) (lsA : Array Slot), va_P D zcl (zws base gA n I J P) H → va_S (fun q => base ≤ q) s.heap H locs → lv_has lsA nL (zas base b ls) → W p l e R s m args below meth c H locs (n - n0) (zsz n - zsz n0) Q (F0 m pc lsA (st.map (zcv base b)))
def z_isr : Value → Bool
  | .ref _ => true
  | .float _ => true
  | _ => false
def z_fl (own : String) (idx ci k : Nat) : Prop := ci < 13 ∧ k < zN ci ∧ (zT ci k).1 = zR ci ∧ (Cond.fieldLink own idx (zR ci) (zT ci k).2.1 (zT ci k).2.2.1 ∈ z_good ∨ ∃ host, Cond.fieldLinkNest own idx (zR ci) (zT ci k).2.1 (zT ci k).2.2.1 host ∈ z_nest)
def z_ml (own : String) (idx : Nat) (y : MethodName) (cc : ByteArray) (maxL : Nat) (ret : Option FieldType) (na : Nat) : Prop := (Cond.methodLink own idx y ∈ z_good ∨ ∃ host, Cond.methodLinkNest own idx y host ∈ z_nest) ∧ Cond.initialized y.cls ∈ z_good ∧ Cond.code y cc maxL ret ∈ z_good ∧ (y.cls ≠ "java/lang/invoke/MethodHandle" ∧ y.cls ≠ "java/lang/invoke/VarHandle" ∧ (parseMethodDescriptor y.desc).map (fun d => d.parameters.length) = some na)
def z_Pc (D : va_G) (gA : FieldType → Nat) (base b n : Nat) (I : zI) (J : zJ) (P : zP) (args : List Value) : Array Value → State → Prop := va_Pc (args.map (zcv base b)) (fun U => va_P D zcl (zws base gA n I J P) U.heap ∧ U.heap.size = base + n ∧ va_K D zcl (ztys gA) U ∧ (∀ w ∈ z_nest, va_Nw w U) ∧ va_AO "StepsShared$Standing" U)
def z_Qc (D : va_G) (gA : FieldType → Nat) (base b n1 : Nat) (post : Option Value → zI → zJ → zP → Prop) : Array Value → State → Outcome → State → Prop := fun _ st o t => (∃ (r : Option Value) (I : zI) (J : zJ) (P : zP), o = .returned (r.map (zcv base b)) ∧ post r I J P ∧ va_P D zcl (zws base gA n1 I J P) t.heap) ∧ va_F (fun q => base ≤ q) st t
/-- A METHOD'S CONTRACT over the abstract world: begun there with these arguments, it returns, and post holds of answer and world -/
def z_Sp (d : Nat) (y : MethodName) (cc : ByteArray) (maxL : Nat) (ret : Option FieldType) (n n1 : Nat) (I : zI) (J : zJ) (P : zP) (args : List Value) (post : Option Value → zI → zJ → zP → Prop) : Prop :=
  n ≤ n1 ∧ ∀ (l : Launch) (D : va_G) (gA : FieldType → Nat) (base b : Nat), Met l y (Cond.code y cc maxL ret :: z_good) { frames := d, cells := n1 - n, slots := zsz n1 - zsz n, locals := 64 * d } (z_Pc D gA base b n I J P args) (z_Qc D gA base b n1 post) (n1 - n) (zsz n1 - zsz n) (fun q => base ≤ q)
/-- a call of Math's max, min, abs -/
def z_MM (own : String) (i : Nat) (nm : MethodName) (cd : ByteArray) (ml : Nat) : Prop := Cond.methodLink own i nm ∈ z_good ∧ Cond.static nm ∈ z_good ∧ Cond.initialized "java/lang/Math" ∈ z_good ∧ Cond.code nm cd ml (some .int) ∈ z_good
def z_cc : ClassFile.Cond → Int32 → Int32 → Prop
  | .eq, x, y => x = y
  | .ne, x, y => ¬ x = y
  | .lt, x, y => x < y
  | .ge, x, y => y ≤ x
  | .gt, x, y => y < x
  | .le, x, y => x ≤ y
def z_fv (P : zP) (I : zI) (ci o k : Nat) : Value := match zty ci k with
  | .object _ => (match P o k with | some q => .ref q | none => .null)
  | .array _ => (match P o k with | some q => .ref q | none => .null)
  | _ => .int (I o k)
def z_rf : Option Nat → Value
  | some q => .ref q
  | none => .null
def z_okI (ci k : Nat) (x : Int32) : Prop := narrow (zty ci k) (.int x) = .int x ∧ fits (zty ci k) (.int x) = true ∧ (∀ C, zty ci k ≠ .object C) ∧ (∀ t, zty ci k ≠ .array t)
def z_okR (ci k : Nat) : Prop := (∃ C, zty ci k = .object C) ∨ (∃ t, zty ci k = .array t)
def z_fin (own : String) (ini : Bool) (ci k : Nat) : Prop := (zT ci k).2.2.2 = true → ini = true ∧ (zT ci k).1 = own ∧ ∃ idx, Cond.fieldLink own idx (zR ci) (zT ci k).2.1 (zT ci k).2.2.1 ∈ z_good
/-- a returning instruction, and what must hold there -/
def z_ret (ret : Option FieldType) (n1 : Nat) (post : Option Value → zI → zJ → zP → Prop) (n : Nat) (I : zI) (J : zJ) (P : zP) (st : List Value) (i : Instr) : Prop := match i with
  | .ireturn => ∃ (x : Int32) (ty : FieldType), st = [.int x] ∧ ret = some ty ∧ narrow ty (.int x) = .int x ∧ n = n1 ∧ post (some (.int x)) I J P
  | .lreturn => ∃ (x : Int64), st = [.long x] ∧ ret = some .long ∧ n = n1 ∧ post (some (.long x)) I J P
  | .return_ => st = [] ∧ ret = none ∧ n = n1 ∧ post none I J P
  | _ => False

/-- a putfield's right: a field that isn't final; or a final one in its own class's constructor -/
def z_pf (own : String) (ini : Bool) (idx ci k : Nat) : Prop := (zT ci k).2.2.2 = false ∨ ((zT ci k).2.2.2 = true ∧ ini = true ∧ (zT ci k).1 = own ∧ Cond.fieldLink own idx (zR ci) (zT ci k).2.1 (zT ci k).2.2.1 ∈ z_good)
def z_wp (own : String) (d n1 : Nat) (ini : Bool) (sc : Option (Nat × (Nat → Int32))) (ret : Option FieldType) (post : Option Value → zI → zJ → zP → Prop) (V : Nat → zI → zJ → zP → Nat → List Value → List Value → Prop) (n : Nat) (I : zI) (J : zJ) (P : zP) (pc : Nat) (ls st : List Value) (i : Instr) (len : Nat) : Prop := match i with
  | .iadd => len = 1 ∧ ∃ (x y : Int32) (r : List Value), st = .int y :: .int x :: r ∧ V n I J P (pc + 1) ls (.int (x + y) :: r)
  | .isub => len = 1 ∧ ∃ (x y : Int32) (r : List Value), st = .int y :: .int x :: r ∧ V n I J P (pc + 1) ls (.int (x - y) :: r)
  | .imul => len = 1 ∧ ∃ (x y : Int32) (r : List Value), st = .int y :: .int x :: r ∧ V n I J P (pc + 1) ls (.int (x * y) :: r)
  | .iand => len = 1 ∧ ∃ (x y : Int32) (r : List Value), st = .int y :: .int x :: r ∧ V n I J P (pc + 1) ls (.int (x &&& y) :: r)
  | .ior => len = 1 ∧ ∃ (x y : Int32) (r : List Value), st = .int y :: .int x :: r ∧ V n I J P (pc + 1) ls (.int (x ||| y) :: r)
  | .ixor => len = 1 ∧ ∃ (x y : Int32) (r : List Value), st = .int y :: .int x :: r ∧ V n I J P (pc + 1) ls (.int (x ^^^ y) :: r)
  | .ishl => len = 1 ∧ ∃ (x y : Int32) (r : List Value), st = .int y :: .int x :: r ∧ V n I J P (pc + 1) ls (.int (x <<< (y &&& 31)) :: r)
  | .ishr => len = 1 ∧ ∃ (x y : Int32) (r : List Value), st = .int y :: .int x :: r ∧ V n I J P (pc + 1) ls (.int (x >>> (y &&& 31)) :: r)
  | .iushr => len = 1 ∧ ∃ (x y : Int32) (r : List Value), st = .int y :: .int x :: r ∧ V n I J P (pc + 1) ls (.int ((x.toUInt32 >>> (y.toUInt32 &&& Int32.toUInt32 31)).toInt32) :: r)
  | .idiv => len = 1 ∧ ∃ (x y : Int32) (r : List Value), st = .int y :: .int x :: r ∧ ¬ y = 0 ∧ V n I J P (pc + 1) ls (.int (x / y) :: r)
  | .irem => len = 1 ∧ ∃ (x y : Int32) (r : List Value), st = .int y :: .int x :: r ∧ ¬ y = 0 ∧ V n I J P (pc + 1) ls (.int (x - x / y * y) :: r)
  | .ladd => len = 1 ∧ ∃ (x y : Int64) (r : List Value), st = .long y :: .long x :: r ∧ V n I J P (pc + 1) ls (.long (x + y) :: r)
  | .lsub => len = 1 ∧ ∃ (x y : Int64) (r : List Value), st = .long y :: .long x :: r ∧ V n I J P (pc + 1) ls (.long (x - y) :: r)
  | .lmul => len = 1 ∧ ∃ (x y : Int64) (r : List Value), st = .long y :: .long x :: r ∧ V n I J P (pc + 1) ls (.long (x * y) :: r)
  | .land => len = 1 ∧ ∃ (x y : Int64) (r : List Value), st = .long y :: .long x :: r ∧ V n I J P (pc + 1) ls (.long (x &&& y) :: r)
  | .lor => len = 1 ∧ ∃ (x y : Int64) (r : List Value), st = .long y :: .long x :: r ∧ V n I J P (pc + 1) ls (.long (x ||| y) :: r)
  | .lxor => len = 1 ∧ ∃ (x y : Int64) (r : List Value), st = .long y :: .long x :: r ∧ V n I J P (pc + 1) ls (.long (x ^^^ y) :: r)
  | .ldiv => len = 1 ∧ ∃ (x y : Int64) (r : List Value), st = .long y :: .long x :: r ∧ ¬ y = 0 ∧ V n I J P (pc + 1) ls (.long (x / y) :: r)
  | .lrem => len = 1 ∧ ∃ (x y : Int64) (r : List Value), st = .long y :: .long x :: r ∧ ¬ y = 0 ∧ V n I J P (pc + 1) ls (.long (x - x / y * y) :: r)
  | .lshl => len = 1 ∧ ∃ (x : Int64) (y : Int32) (r : List Value), st = .int y :: .long x :: r ∧ V n I J P (pc + 1) ls (.long (x <<< (y.toInt64 &&& 63)) :: r)
  | .lshr => len = 1 ∧ ∃ (x : Int64) (y : Int32) (r : List Value), st = .int y :: .long x :: r ∧ V n I J P (pc + 1) ls (.long (x >>> (y.toInt64 &&& 63)) :: r)
  | .lushr => len = 1 ∧ ∃ (x : Int64) (y : Int32) (r : List Value), st = .int y :: .long x :: r ∧ V n I J P (pc + 1) ls (.long ((x.toUInt64 >>> (y.toInt64.toUInt64 &&& Int64.toUInt64 63)).toInt64) :: r)
  | .ineg => len = 1 ∧ ∃ (x : Int32) (r : List Value), st = .int x :: r ∧ V n I J P (pc + 1) ls (.int (-x) :: r)
  | .i2l => len = 1 ∧ ∃ (x : Int32) (r : List Value), st = .int x :: r ∧ V n I J P (pc + 1) ls (.long x.toInt64 :: r)
  | .l2i => len = 1 ∧ ∃ (x : Int64) (r : List Value), st = .long x :: r ∧ V n I J P (pc + 1) ls (.int x.toInt32 :: r)
  | .lcmp => len = 1 ∧ ∃ (x y : Int64) (r : List Value), st = .long y :: .long x :: r ∧ V n I J P (pc + 1) ls (.int (lg_cmp x y) :: r)
  | .iconst c => len = 1 ∧ V n I J P (pc + 1) ls (.int (Int32.ofInt c) :: st)
  | .bipush c => len = 2 ∧ V n I J P (pc + 2) ls (.int (Int8.ofInt c).toInt32 :: st)
  | .sipush c => len = 3 ∧ V n I J P (pc + 3) ls (.int (Int16.ofInt c).toInt32 :: st)
  | .lconst c => len = 1 ∧ V n I J P (pc + 1) ls (.long (Int64.ofNat (c : Nat)) :: st)
  | .ldc i => len = 2 ∧ ∃ x : Int32, Cond.constant own i x ∈ z_good ∧ V n I J P (pc + 2) ls (.int x :: st)
  | .ldc_w i => len = 3 ∧ ∃ x : Int32, Cond.constant own i x ∈ z_good ∧ V n I J P (pc + 3) ls (.int x :: st)
  | .ldc2_w i => len = 3 ∧ ∃ x : Int64, Cond.constantLong own i x ∈ z_good ∧ V n I J P (pc + 3) ls (.long x :: st)
  | .iload_n k => len = 1 ∧ ∃ x : Int32, ls[(k : Nat)]? = some (.int x) ∧ V n I J P (pc + 1) ls (.int x :: st)
  | .iload k => len = 2 ∧ ∃ x : Int32, ls[k]? = some (.int x) ∧ V n I J P (pc + 2) ls (.int x :: st)
  | .lload_n k => len = 1 ∧ ∃ x : Int64, ls[(k : Nat)]? = some (.long x) ∧ V n I J P (pc + 1) ls (.long x :: st)
  | .lload k => len = 2 ∧ ∃ x : Int64, ls[k]? = some (.long x) ∧ V n I J P (pc + 2) ls (.long x :: st)
  | .aload_n k => len = 1 ∧ ∃ v : Value, ls[(k : Nat)]? = some v ∧ z_isr v = true ∧ V n I J P (pc + 1) ls (v :: st)
  | .aload k => len = 2 ∧ ∃ v : Value, ls[k]? = some v ∧ z_isr v = true ∧ V n I J P (pc + 2) ls (v :: st)
  | .istore_n k => len = 1 ∧ ∃ (x : Int32) (r : List Value), st = .int x :: r ∧ (k : Nat) < ls.length ∧ V n I J P (pc + 1) (zst1 ls k (.int x)) r
  | .istore k => len = 2 ∧ ∃ (x : Int32) (r : List Value), st = .int x :: r ∧ k < ls.length ∧ V n I J P (pc + 2) (zst1 ls k (.int x)) r
  | .astore_n k => len = 1 ∧ ∃ (x : Nat) (r : List Value), st = .ref x :: r ∧ (k : Nat) < ls.length ∧ V n I J P (pc + 1) (zst1 ls k (.ref x)) r
  | .astore k => len = 2 ∧ ∃ (x : Nat) (r : List Value), st = .ref x :: r ∧ k < ls.length ∧ V n I J P (pc + 2) (zst1 ls k (.ref x)) r
  | .lstore_n k => len = 1 ∧ ∃ (x : Int64) (r : List Value), st = .long x :: r ∧ (k : Nat) + 1 < ls.length ∧ V n I J P (pc + 1) (zst2 ls k (.long x)) r
  | .lstore k => len = 2 ∧ ∃ (x : Int64) (r : List Value), st = .long x :: r ∧ k + 1 < ls.length ∧ V n I J P (pc + 2) (zst2 ls k (.long x)) r
  | .iinc k c => len = 3 ∧ ∃ x : Int32, ls[k]? = some (.int x) ∧ V n I J P (pc + 3) (zst1 ls k (.int (x + Int32.ofInt c))) st
  | .dup => len = 1 ∧ ∃ (v : Value) (r : List Value), st = v :: r ∧ v.category = 1 ∧ V n I J P (pc + 1) ls (v :: v :: r)
  | .dup2 => len = 1 ∧ ∃ (v u : Value) (r : List Value), st = v :: u :: r ∧ v.category = 1 ∧ u.category = 1 ∧ V n I J P (pc + 1) ls (v :: u :: v :: u :: r)
  | .goto o => len = 3 ∧ ∃ t : Nat, (pc : Int) + o = (t : Int) ∧ V n I J P t ls st
  | .if_icmp cd o => len = 3 ∧ ∃ (x y : Int32) (r : List Value) (t : Nat), st = .int y :: .int x :: r ∧ (pc : Int) + o = (t : Int) ∧ (z_cc cd x y → V n I J P t ls r) ∧ (¬ z_cc cd x y → V n I J P (pc + 3) ls r)
  | .ifCond cd o => len = 3 ∧ ∃ (x : Int32) (r : List Value) (t : Nat), st = .int x :: r ∧ (pc : Int) + o = (t : Int) ∧ (z_cc cd x 0 → V n I J P t ls r) ∧ (¬ z_cc cd x 0 → V n I J P (pc + 3) ls r)
  | .ifnonnull o => len = 3 ∧ ∃ (v : Value) (r : List Value) (t : Nat), st = v :: r ∧ z_isr v = true ∧ (pc : Int) + o = (t : Int) ∧ V n I J P t ls r
  | .tableswitch df lo hi offs => ∃ (x : Int32) (r : List Value), st = .int x :: r ∧ ((x.toInt < lo ∨ hi < x.toInt) → ∃ t : Nat, (pc : Int) + df = (t : Int) ∧ V n I J P t ls r) ∧ (¬ x.toInt < lo → ¬ hi < x.toInt → ∃ (o : Int) (t : Nat), offs[(x.toInt - lo).toNat]? = some o ∧ (pc : Int) + o = (t : Int) ∧ V n I J P t ls r)
  | .iaload => len = 1 ∧ ((∃ (q : Nat) (k : Int32) (r : List Value) (N : Nat), st = .int k :: .ref q :: r ∧ q < n ∧ zSH q = .inr (.int, N) ∧ vp_in k N ∧ V n I J P (pc + 1) ls (.int (I q k.toNatClampNeg) :: r)) ∨ (∃ (f : UInt32) (k : Int32) (r : List Value) (L : Nat) (xs : Nat → Int32), st = .int k :: .float f :: r ∧ sc = some (L, xs) ∧ vp_in k L ∧ V n I J P (pc + 1) ls (.int (xs k.toNatClampNeg) :: r)))
  | .arraylength => len = 1 ∧ ∃ (f : UInt32) (r : List Value) (L : Nat) (xs : Nat → Int32), st = .float f :: r ∧ sc = some (L, xs) ∧ V n I J P (pc + 1) ls (.int (Int32.ofNat L) :: r)
  | .baload => len = 1 ∧ ∃ (q : Nat) (k : Int32) (r : List Value) (N : Nat), st = .int k :: .ref q :: r ∧ q < n ∧ zSH q = .inr (.boolean, N) ∧ vp_in k N ∧ V n I J P (pc + 1) ls (.int (I q k.toNatClampNeg) :: r)
  | .laload => len = 1 ∧ ∃ (q : Nat) (k : Int32) (r : List Value) (N : Nat), st = .int k :: .ref q :: r ∧ q < n ∧ zSH q = .inr (.long, N) ∧ vp_in k N ∧ V n I J P (pc + 1) ls (.long (J q k.toNatClampNeg) :: r)
  | .aaload => len = 1 ∧ ∃ (q : Nat) (k : Int32) (r : List Value) (N : Nat), st = .int k :: .ref q :: r ∧ q < n ∧ zSH q = .inr (zStd, N) ∧ vp_in k N ∧ V n I J P (pc + 1) ls (z_rf (P q k.toNatClampNeg) :: r)
  | .iastore => len = 1 ∧ ∃ (q : Nat) (k x : Int32) (r : List Value) (N : Nat), st = .int x :: .int k :: .ref q :: r ∧ q < n ∧ zSH q = .inr (.int, N) ∧ vp_in k N ∧ V n (zu I q (zu (I q) k.toNatClampNeg x)) J P (pc + 1) ls r
  | .bastore => len = 1 ∧ ∃ (q : Nat) (k x : Int32) (r : List Value) (N : Nat), st = .int x :: .int k :: .ref q :: r ∧ q < n ∧ zSH q = .inr (.boolean, N) ∧ vp_in k N ∧ V n (zu I q (zu (I q) k.toNatClampNeg (vp_nar .boolean x))) J P (pc + 1) ls r
  | .lastore => len = 1 ∧ ∃ (q : Nat) (k : Int32) (x : Int64) (r : List Value) (N : Nat), st = .long x :: .int k :: .ref q :: r ∧ q < n ∧ zSH q = .inr (.long, N) ∧ vp_in k N ∧ V n I (zu J q (zu (J q) k.toNatClampNeg x)) P (pc + 1) ls r
  | .aastore => len = 1 ∧ ∃ (q v : Nat) (k : Int32) (r : List Value) (N : Nat), st = .ref v :: .int k :: .ref q :: r ∧ q < n ∧ v < n ∧ zSH q = .inr (zStd, N) ∧ zSH v = .inl 7 ∧ vp_in k N ∧ V n I J (zu P q (zu (P q) k.toNatClampNeg (some v))) (pc + 1) ls r
  | .getfield i => len = 3 ∧ ∃ (o ci k : Nat) (r : List Value), st = .ref o :: r ∧ z_fl own i ci k ∧ o < n ∧ zSH o = .inl ci ∧ V n I J P (pc + 3) ls (z_fv P I ci o k :: r)
  | .putfield i => len = 3 ∧ ∃ (o ci k : Nat) (r : List Value), z_fl own i ci k ∧ z_pf own ini i ci k ∧ o < n ∧ zSH o = .inl ci ∧ ((∃ x : Int32, st = .int x :: .ref o :: r ∧ z_okI ci k x ∧ V n (zu I o (zu (I o) k x)) J P (pc + 3) ls r) ∨ (∃ q : Nat, st = .ref q :: .ref o :: r ∧ z_okR ci k ∧ V n I J (zu P o (zu (P o) k (some q))) (pc + 3) ls r))
  | .new i => len = 3 ∧ ∃ ci : Nat, ci < 13 ∧ Cond.classLink own i (zR ci) ∈ z_good ∧ Cond.instantiable (zR ci) (zN ci) ∈ z_good ∧ Cond.initialized (zR ci) ∈ z_good ∧ zSH n = .inl ci ∧ n + 1 ≤ n1 ∧ V (n + 1) (zu I n (fun _ => 0)) (zu J n (fun _ => 0)) (zu P n (fun _ => none)) (pc + 3) ls (.ref n :: st)
  | .newarray t => len = 2 ∧ ∃ (x : Int32) (N : Nat) (r : List Value), st = .int x :: r ∧ (t = .int ∨ t = .long ∨ t = .boolean) ∧ Cond.arrayClass (newarray.typeOf t) ∈ z_good ∧ zSH n = .inr (newarray.typeOf t, N) ∧ ¬ x < 0 ∧ x.toNatClampNeg = N ∧ N ≤ 100000 ∧ n + 1 ≤ n1 ∧ V (n + 1) (zu I n (fun _ => 0)) (zu J n (fun _ => 0)) (zu P n (fun _ => none)) (pc + 2) ls (.ref n :: r)
  | .anewarray i => len = 3 ∧ ∃ (x : Int32) (N : Nat) (r : List Value), st = .int x :: r ∧ Cond.classLink own i "StepsShared$Standing" ∈ z_good ∧ zSH n = .inr (zStd, N) ∧ ¬ x < 0 ∧ x.toNatClampNeg = N ∧ N ≤ 100000 ∧ n + 1 ≤ n1 ∧ V (n + 1) (zu I n (fun _ => 0)) (zu J n (fun _ => 0)) (zu P n (fun _ => none)) (pc + 3) ls (.ref n :: r)
  | .invokevirtual i => len = 3 ∧ ∃ (y : MethodName) (cy : ByteArray) (mL : Nat) (rt : Option FieldType) (na d1 n2 o ci : Nat) (As rest : List Value) (post1 : Option Value → zI → zJ → zP → Prop), st = As.reverse ++ .ref o :: rest ∧ z_ml own i y cy mL rt na ∧ Cond.instanceMethod y ∈ z_good ∧ Cond.selects y.cls y y ∈ z_good ∧ As.length = na ∧ o < n ∧ zSH o = .inl ci ∧ ci < 13 ∧ zR ci = y.cls ∧ d1 + 1 ≤ d ∧ mL ≤ 45 ∧ (rest.map fun v => v.category).sum ≤ 8 ∧ n2 ≤ n1 ∧ z_Sp d1 y cy mL rt n n2 I J P (.ref o :: As) post1 ∧ (∀ (r : Option Value) (I1 : zI) (J1 : zJ) (P1 : zP), post1 r I1 J1 P1 → V n2 I1 J1 P1 (pc + 3) ls (r.toList ++ rest))
  | .invokestatic i => len = 3 ∧ ((∃ (y : MethodName) (cy : ByteArray) (mL : Nat) (rt : Option FieldType) (na d1 n2 : Nat) (As rest : List Value) (post1 : Option Value → zI → zJ → zP → Prop), st = As.reverse ++ rest ∧ z_ml own i y cy mL rt na ∧ Cond.static y ∈ z_good ∧ As.length = na ∧ d1 + 1 ≤ d ∧ mL ≤ 45 ∧ (rest.map fun v => v.category).sum ≤ 8 ∧ n2 ≤ n1 ∧ z_Sp d1 y cy mL rt n n2 I J P As post1 ∧ (∀ (r : Option Value) (I1 : zI) (J1 : zJ) (P1 : zP), post1 r I1 J1 P1 → V n2 I1 J1 P1 (pc + 3) ls (r.toList ++ rest))) ∨ (∃ (x y : Int32) (r : List Value), st = .int y :: .int x :: r ∧ 1 ≤ d ∧ (r.map fun v => v.category).sum ≤ 8 ∧ z_MM own i Lib.Math.max.name Lib.Math.max.code 2 ∧ V n I J P (pc + 3) ls (.int (if x < y then y else x) :: r)) ∨ (∃ (x y : Int32) (r : List Value), st = .int y :: .int x :: r ∧ 1 ≤ d ∧ (r.map fun v => v.category).sum ≤ 8 ∧ z_MM own i Lib.Math.min.name Lib.Math.min.code 2 ∧ V n I J P (pc + 3) ls (.int (if y < x then y else x) :: r)) ∨ (∃ (x : Int32) (r : List Value), st = .int x :: r ∧ 1 ≤ d ∧ (r.map fun v => v.category).sum ≤ 8 ∧ z_MM own i Lib.Math.abs.name Lib.Math.abs.code 1 ∧ V n I J P (pc + 3) ls (.int (if 0 ≤ x then x else 0 - x) :: r)))
  | .invokespecial i => len = 3 ∧ ((∃ (o : Nat) (rest : List Value), st = .ref o :: rest ∧ Cond.methodLink own i Lib.objectInit ∈ z_good ∧ 1 ≤ d ∧ (rest.map fun v => v.category).sum ≤ 8 ∧ V n I J P (pc + 3) ls rest) ∨ (∃ (y : MethodName) (cy : ByteArray) (mL : Nat) (na d1 n2 o : Nat) (As rest : List Value) (post1 : Option Value → zI → zJ → zP → Prop), st = As.reverse ++ .ref o :: rest ∧ z_ml own i y cy mL none na ∧ Cond.instanceMethod y ∈ z_good ∧ y.name = "<init>" ∧ As.length = na ∧ d1 + 1 ≤ d ∧ mL ≤ 45 ∧ (rest.map fun v => v.category).sum ≤ 8 ∧ n2 ≤ n1 ∧ z_Sp d1 y cy mL none n n2 I J P (.ref o :: As) post1 ∧ (∀ (r : Option Value) (I1 : zI) (J1 : zJ) (P1 : zP), post1 r I1 J1 P1 → V n2 I1 J1 P1 (pc + 3) ls (r.toList ++ rest))))
  | i => len = 1 ∧ z_ret ret n1 post n I J P st i

def z_tI : FieldType → Bool
  | .object _ => false
  | .array _ => false
  | _ => true
/-- a field's link: own class's pool place; class and field; whether it holds a number; whether a putfield may -/
def z_FL (own : String) (i ci k : Nat) (num : Bool) : Prop := z_fl own i ci k ∧ z_tI (zty ci k) = num
/-- links of calls -/
def z_MV (own : String) (idx ci : Nat) (y : MethodName) (cc : ByteArray) (maxL : Nat) (ret : Option FieldType) (na : Nat) : Prop := z_ml own idx y cc maxL ret na ∧ Cond.instanceMethod y ∈ z_good ∧ Cond.selects y.cls y y ∈ z_good ∧ ci < 13 ∧ zR ci = y.cls ∧ maxL ≤ 45
def z_MS (own : String) (idx : Nat) (y : MethodName) (cc : ByteArray) (maxL : Nat) (ret : Option FieldType) (na : Nat) : Prop := z_ml own idx y cc maxL ret na ∧ Cond.static y ∈ z_good ∧ maxL ≤ 45
def z_MI (own : String) (idx : Nat) (y : MethodName) (cc : ByteArray) (maxL : Nat) (na : Nat) : Prop := z_ml own idx y cc maxL none na ∧ Cond.instanceMethod y ∈ z_good ∧ y.name = "<init>" ∧ maxL ≤ 45

