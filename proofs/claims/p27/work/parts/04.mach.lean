def zmth (k : Nat) : zM := zmt.getD k zm_0
def zy (k : Nat) : MethodName := (zmth k).1
def zb (k : Nat) : ByteArray := (zmth k).2.1
def zmx (k : Nat) : Nat := (zmth k).2.2.1
def zrt (k : Nat) : Option FieldType := (zmth k).2.2.2.1
def zow (k : Nat) : Nat := (zmth k).2.2.2.2.1
def zst (k : Nat) : Bool := (zmth k).2.2.2.2.2.1
def zna (k : Nat) : Nat := (zmth k).2.2.2.2.2.2.1
def zcd (k : Nat) : List (Nat × Instr × Nat) := (zmth k).2.2.2.2.2.2.2
def zfr (k : Nat) : Nat := (zroom.getD k (0, 0)).1
def zlo (k : Nat) : Nat := (zroom.getD k (0, 0)).2
def zis (k : Nat) : Bool := (zy k).name == "<init>"
/-- the kinds of the fields: 0 an int, 1 a boolean, 2 a reference; final ones have 10 more -/
def zkinds : List (List Nat) := [[12, 12, 0], [12], [12, 0, 0], [12, 0], [0, 0, 0, 1], [12, 12, 12, 12], [12, 12, 12], [12, 12, 12, 12, 12, 12, 12, 12, 0], [12, 0], [12, 12, 12, 12, 12, 12, 12, 12]]
def zkind (ci sl : Nat) : Nat := (zkinds.getD ci []).getD sl 99
def zdef (ci : Nat) : List zV := (zkinds.getD ci []).map fun k => if k = 12 then vN else vI 0
def zlk {α : Type} (l : List (Nat × Nat × α)) (own idx : Nat) : Option α := (l.find? fun q => q.1 == own && q.2.1 == idx).map fun q => q.2.2
/-- an instruction with what its operands name put in: getfield is written as invokeinterface (class, slot), putfield as multianewarray (class, slot), a call of Object's constructor as pop (and pop as pop2), other methods of the JDK as invokedynamic, a boolean's return as freturn; jumps name their aims -/
def zres (k pc : Nat) (r : Instr) : Option Instr :=
  match r with
  | .iconst z => some (.iconst z)
  | .bipush z => if -128 ≤ z ∧ z < 128 then some (.iconst z) else none
  | .sipush z => if -32768 ≤ z ∧ z < 32768 then some (.iconst z) else none
  | .ldc idx => (zlk zil (zow k) idx).map .iconst
  | .lconst n => some (.ldc2_w n.val)
  | .ldc2_w idx => (zlk zll (zow k) idx).map .ldc2_w
  | .iload_n n => some (.iload n.val)
  | .iload n => some (.iload n)
  | .lload_n n => some (.lload n.val)
  | .lload n => some (.lload n)
  | .aload_n n => some (.aload n.val)
  | .aload n => some (.aload n)
  | .istore_n n => if n.val < zmx k then some (.istore n.val) else none
  | .istore n => if n < zmx k then some (.istore n) else none
  | .lstore_n n => if n.val + 1 < zmx k then some (.lstore n.val) else none
  | .lstore n => if n + 1 < zmx k then some (.lstore n) else none
  | .astore_n n => if n.val < zmx k then some (.astore n.val) else none
  | .astore n => if n < zmx k then some (.astore n) else none
  | .iinc n z => if n < zmx k then some (.iinc n z) else none
  | .iadd => some .iadd
  | .isub => some .isub
  | .imul => some .imul
  | .idiv => some .idiv
  | .irem => some .irem
  | .iand => some .iand
  | .ishl => some .ishl
  | .ishr => some .ishr
  | .ixor => some .ixor
  | .ineg => some .ineg
  | .dup_x2 => some .dup_x2
  | .pop => some .pop2
  | .land => some .land
  | .lor => some .lor
  | .lshl => some .lshl
  | .lushr => some .lushr
  | .lcmp => some .lcmp
  | .i2l => some .i2l
  | .l2i => some .l2i
  | .dup => some .dup
  | .dup2 => some .dup2
  | .ifCond c o => if 0 ≤ (pc : Int) + o then some (.ifCond c (pc + o)) else none
  | .if_icmp c o => if 0 ≤ (pc : Int) + o then some (.if_icmp c (pc + o)) else none
  | .goto o => if 0 ≤ (pc : Int) + o then some (.goto (pc + o)) else none
  | .ifnonnull o => if 0 ≤ (pc : Int) + o then some (.ifnonnull (pc + o)) else none
  | .tableswitch d lo hi os => some (.tableswitch d lo hi os)
  | .getfield idx => (zlk zfl (zow k) idx).map fun q => .invokeinterface q.1 q.2
  | .putfield idx => (zlk zfl (zow k) idx).bind fun q => if zkind q.1 q.2 < 10 ∨ (zis k = true ∧ q.1 = zow k) then some (.multianewarray q.1 q.2) else none
  | .getstatic idx => (zlk zsl (zow k) idx).map .getstatic
  | .iaload => some .iaload
  | .laload => some .laload
  | .baload => some .baload
  | .aaload => some .aaload
  | .iastore => some .iastore
  | .lastore => some .lastore
  | .bastore => some .bastore
  | .aastore => some .aastore
  | .arraylength => some .arraylength
  | .new idx => (zlk zkl (zow k) idx).map .new
  | .newarray t => some (.newarray t)
  | .anewarray idx => (zlk zkl (zow k) idx).bind fun c => if c = 6 then some (.anewarray 6) else none
  | .invokevirtual idx => (zlk zml (zow k) idx).bind fun j => if zst j = false ∧ zis j = false then some (.invokevirtual j) else none
  | .invokestatic idx => match zlk zml (zow k) idx with
    | some j => if zst j = true then some (.invokestatic j) else none
    | none => (zlk zbl (zow k) idx).bind fun j => if j = 0 then none else some (.invokedynamic j)
  | .invokespecial idx => match zlk zml (zow k) idx with
    | some j => if zst j = false ∧ zis j = true ∧ zrt j = none then some (.invokespecial j) else none
    | none => (zlk zbl (zow k) idx).bind fun j => if j = 0 then some .pop else none
  | .ireturn => if zrt k = some .int then some .ireturn else if zrt k = some .boolean then some .freturn else none
  | .lreturn => if zrt k = some .long then some .lreturn else none
  | .return_ => if zrt k = none then some .return_ else none
  | _ => none
def zat (k pc : Nat) : Option (Instr × Nat) := ((zcd k).find? fun q => q.1 == pc).bind fun q => (zres k pc q.2.1).map fun i => (i, q.2.2)
-- what is on the stack, in the locals, in the heap
def zkI {R : Type} (bad : R) (v : Option zV) (k : Int → R) : R := match v with
  | some (Sum.inl z) => k z
  | _ => bad
def zkJ {R : Type} (bad : R) (v : Option zV) (k : Nat → R) : R := match v with
  | some (Sum.inr (Sum.inl z)) => k z
  | _ => bad
def zkP {R : Type} (bad : R) (v : Option zV) (k : Option Nat → R) : R := match v with
  | some (Sum.inr (Sum.inr (Sum.inl z))) => k z
  | _ => bad
def zpop {R : Type} (bad : R) (st : List zV) (k : zV → List zV → R) : R := match st with
  | v :: r => k v r
  | [] => bad
def zpI {R : Type} (bad : R) (st : List zV) (k : Int → List zV → R) : R := zpop bad st fun v r => zkI bad (some v) fun z => k z r
def zpJ {R : Type} (bad : R) (st : List zV) (k : Nat → List zV → R) : R := zpop bad st fun v r => zkJ bad (some v) fun z => k z r
def zpP {R : Type} (bad : R) (st : List zV) (k : Option Nat → List zV → R) : R := zpop bad st fun v r => zkP bad (some v) fun z => k z r
def zpR {R : Type} (bad : R) (st : List zV) (k : Nat → List zV → R) : R := zpP bad st fun o r => match o with
  | some a => k a r
  | none => bad
def zhI {R : Type} (bad : R) (c : Option zE) (k : Nat → (Nat → Int) → R) : R := match c with
  | some (Sum.inl (n, Sum.inl f)) => k n f
  | _ => bad
def zhZ {R : Type} (bad : R) (c : Option zE) (k : Nat → (Nat → Int) → R) : R := match c with
  | some (Sum.inl (n, Sum.inr (Sum.inl f))) => k n f
  | _ => bad
def zhJ {R : Type} (bad : R) (c : Option zE) (k : Nat → (Nat → Nat) → R) : R := match c with
  | some (Sum.inl (n, Sum.inr (Sum.inr (Sum.inl f)))) => k n f
  | _ => bad
def zhQ {R : Type} (bad : R) (c : Option zE) (k : Nat → (Nat → Option Nat) → R) : R := match c with
  | some (Sum.inl (n, Sum.inr (Sum.inr (Sum.inr f)))) => k n f
  | _ => bad
def zhA {R : Type} (bad : R) (c : Option zE) (k : Nat → zA → R) : R := match c with
  | some (Sum.inl (n, f)) => k n f
  | _ => bad
def zhO {R : Type} (bad : R) (c : Option zE) (k : Nat → List zV → R) : R := match c with
  | some (Sum.inr (n, f)) => k n f
  | _ => bad
abbrev zr (z : Int) : Prop := -2147483648 ≤ z ∧ z < 2147483648
abbrev zix (i : Int) (n : Nat) : Prop := 0 ≤ i ∧ i < (n : Int) ∧ i < 2147483648
def zsg (n : Nat) : Int := if n < 9223372036854775808 then (n : Int) else (n : Int) - 18446744073709551616
def zlc (x y : Nat) : Int := if x = y then 0 else if zsg x < zsg y then -1 else 1
def zbr {R : Type} (c : Jvm.ClassFile.Cond) (x y : Int) (t f : R) : R := match c with
  | .eq => if x = y then t else f
  | .ne => if x = y then f else t
  | .lt => if x < y then t else f
  | .ge => if x < y then f else t
  | .gt => if y < x then t else f
  | .le => if y < x then f else t
/-- one slot, not nothing -/
def zc1 (v : zV) : Bool := match v with
  | Sum.inl _ => true
  | Sum.inr (Sum.inr (Sum.inl _)) => true
  | _ => false
/-- a long whose second half is written over is gone -/
def zct : List zV → Nat
  | [] => 0
  | v :: r => (if zc1 v = true then 1 else 2) + zct r
def zclr (ls : List zV) (n : Nat) : List zV := match ls[n - 1]? with
  | some (Sum.inr (Sum.inl _)) => ls.set (n - 1) vU
  | _ => ls
def zset1 (ls : List zV) (n : Nat) (v : zV) : List zV := (zclr ls n).set n v
def zset2 (ls : List zV) (n : Nat) (v : zV) : List zV := ((zclr ls n).set n v).set (n + 1) vU
/-- whether a field of this kind takes a value -/
def zfit (kind : Nat) (v : zV) : Bool := match v with
  | Sum.inl z => kind == 0 || (kind == 1 && (z == 0 || z == 1))
  | Sum.inr (Sum.inr (Sum.inl _)) => kind == 12
  | _ => false
def zexp1 (v : zV) : List zV := match v with
  | Sum.inr (Sum.inl n) => [vJ n, vU]
  | w => [w]
def zexp (args : List zV) : List zV := args.flatMap zexp1
def zloc (k : Nat) (args : List zV) : List zV := zexp args ++ List.replicate (zmx k - (zexp args).length) vU
def zrcv {R : Type} (bad : R) (h : zH) (c : Nat) (args : List zV) (k : R) : R := match args with
  | Sum.inr (Sum.inr (Sum.inl (some a))) :: _ => zhO bad h[a]? fun c' _ => if c' = c then k else bad
  | _ => bad
def zrcI {R : Type} (bad : R) (args : List zV) (k : R) : R := match args with
  | Sum.inr (Sum.inr (Sum.inl (some _))) :: _ => k
  | _ => bad
/-- bits of ints -/
def zan (x y : Int) : Int := if y = 31 ∨ y = 255 ∨ y = 1 ∨ y = 15 ∨ y = 2147483647 then x % (y + 1) else (((x % 4294967296).toNat &&& (y % 4294967296).toNat : Nat) : Int)
def zxo (x y : Int) : Int := (((x % 4294967296).toNat ^^^ (y % 4294967296).toNat : Nat) : Int)
def zwr (x : Int) : Int := (x + 2147483648) % 4294967296 - 2147483648
/-- one step of a method: what comes behind it, in the caller's words -/
def zstep {R : Type} (bad : R) (ret : Option zV → zH → R) (call : Nat → List zV → zH → (Option zV → zH → R) → R) (go : Nat → List zV → List zV → zH → R) (pc len : Nat) (i : Instr) (ls st : List zV) (h : zH) : R :=
  match i with
  | .iconst z => go (pc + len) ls (vI z :: st) h
  | .ldc2_w n => go (pc + len) ls (vJ n :: st) h
  | .iload n => zkI bad ls[n]? fun z => go (pc + len) ls (vI z :: st) h
  | .lload n => zkJ bad ls[n]? fun z => go (pc + len) ls (vJ z :: st) h
  | .aload n => zkP bad ls[n]? fun z => go (pc + len) ls (vP z :: st) h
  | .istore n => zpI bad st fun z r => go (pc + len) (zset1 ls n (vI z)) r h
  | .lstore n => zpJ bad st fun z r => go (pc + len) (zset2 ls n (vJ z)) r h
  | .astore n => zpP bad st fun z r => go (pc + len) (zset1 ls n (vP z)) r h
  | .iinc n c => zkI bad ls[n]? fun z => go (pc + len) (zset1 ls n (vI (z + c))) st h
  | .iadd => zpI bad st fun y r => zpI bad r fun x r => go (pc + len) ls (vI (x + y) :: r) h
  | .isub => zpI bad st fun y r => zpI bad r fun x r => go (pc + len) ls (vI (x - y) :: r) h
  | .imul => zpI bad st fun y r => zpI bad r fun x r => go (pc + len) ls (vI (x * y) :: r) h
  | .idiv => zpI bad st fun y r => zpI bad r fun x r => if (0 ≤ x ∧ x < 2147483648) ∧ 0 < y ∧ y < 2147483648 then go (pc + len) ls (vI (x / y) :: r) h else bad
  | .irem => zpI bad st fun y r => zpI bad r fun x r => if zr x ∧ 0 < y ∧ y < 2147483648 then go (pc + len) ls (vI (x.tmod y) :: r) h else bad
  | .iand => zpI bad st fun y r => zpI bad r fun x r => go (pc + len) ls (vI (zan x y) :: r) h
  | .ishl => zpI bad st fun s r => zpI bad r fun x r => if 0 ≤ s ∧ s < 32 then go (pc + len) ls (vI (x * 2 ^ s.toNat) :: r) h else bad
  | .ishr => zpI bad st fun s r => zpI bad r fun x r => if 0 ≤ s ∧ s < 32 then go (pc + len) ls (vI (zwr x / 2 ^ s.toNat) :: r) h else bad
  | .ixor => zpI bad st fun y r => zpI bad r fun x r => go (pc + len) ls (vI (zxo x y) :: r) h
  | .ineg => zpI bad st fun x r => go (pc + len) ls (vI (-x) :: r) h
  | .dup_x2 => zpop bad st fun v r => zpop bad r fun w r => zpop bad r fun u r => if zc1 v = true ∧ zc1 w = true ∧ zc1 u = true then go (pc + len) ls (v :: w :: u :: v :: r) h else bad
  | .pop2 => zpop bad st fun v r => if zc1 v = true then go (pc + len) ls r h else bad
  | .land => zpJ bad st fun y r => zpJ bad r fun x r => go (pc + len) ls (vJ (x &&& y) :: r) h
  | .lor => zpJ bad st fun y r => zpJ bad r fun x r => go (pc + len) ls (vJ (x ||| y) :: r) h
  | .lshl => zpI bad st fun s r => zpJ bad r fun x r => if 0 ≤ s ∧ s < 64 then go (pc + len) ls (vJ (x * 2 ^ s.toNat % 18446744073709551616) :: r) h else bad
  | .lushr => zpI bad st fun s r => zpJ bad r fun x r => if (0 ≤ s ∧ s < 64) ∧ x < 18446744073709551616 then go (pc + len) ls (vJ (x / 2 ^ s.toNat) :: r) h else bad
  | .lcmp => zpJ bad st fun y r => zpJ bad r fun x r => if x < 18446744073709551616 ∧ y < 18446744073709551616 then go (pc + len) ls (vI (zlc x y) :: r) h else bad
  | .i2l => zpI bad st fun x r => if zr x then go (pc + len) ls (vJ (x % 18446744073709551616).toNat :: r) h else bad
  | .l2i => zpJ bad st fun x r => go (pc + len) ls (vI (x : Int) :: r) h
  | .dup => zpop bad st fun v r => if zc1 v = true then go (pc + len) ls (v :: v :: r) h else bad
  | .dup2 => zpop bad st fun v r => zpop bad r fun w r => if zc1 v = true ∧ zc1 w = true then go (pc + len) ls (v :: w :: v :: w :: r) h else bad
  | .ifCond c o => zpI bad st fun z r => if zr z then zbr c z 0 (go o.toNat ls r h) (go (pc + len) ls r h) else bad
  | .if_icmp c o => zpI bad st fun y r => zpI bad r fun x r => if zr x ∧ zr y then zbr c x y (go o.toNat ls r h) (go (pc + len) ls r h) else bad
  | .goto o => go o.toNat ls st h
  | .ifnonnull o => zpP bad st fun p r => match p with
    | some _ => go o.toNat ls r h
    | none => go (pc + len) ls r h
  | .tableswitch d lo hi os => zpI bad st fun z r => if zr z then (if z < lo ∨ hi < z then (if 0 ≤ (pc : Int) + d then go ((pc : Int) + d).toNat ls r h else bad) else match os[(z - lo).toNat]? with
    | some o => if 0 ≤ (pc : Int) + o then go ((pc : Int) + o).toNat ls r h else bad
    | none => bad) else bad
  | .invokeinterface ci sl => zpR bad st fun a r => zhO bad h[a]? fun c fs => if c = ci then (match fs[sl]? with
    | some v => go (pc + len) ls (v :: r) h
    | none => bad) else bad
  | .multianewarray ci sl => zpop bad st fun v r => zpR bad r fun a r => zhO bad h[a]? fun c fs => if (c = ci ∧ sl < fs.length) ∧ zfit (zkind ci sl) v = true then go (pc + len) ls r (h.set a (oO c (fs.set sl v))) else bad
  | .getstatic k => go (pc + len) ls (vR k :: st) h
  | .iaload => zpI bad st fun i r => zpR bad r fun a r => zhI bad h[a]? fun n f => if zix i n then go (pc + len) ls (vI (f i.toNat) :: r) h else bad
  | .laload => zpI bad st fun i r => zpR bad r fun a r => zhJ bad h[a]? fun n f => if zix i n then go (pc + len) ls (vJ (f i.toNat) :: r) h else bad
  | .baload => zpI bad st fun i r => zpR bad r fun a r => zhZ bad h[a]? fun n f => if zix i n then go (pc + len) ls (vI (f i.toNat) :: r) h else bad
  | .aaload => zpI bad st fun i r => zpR bad r fun a r => zhQ bad h[a]? fun n f => if zix i n then go (pc + len) ls (vP (f i.toNat) :: r) h else bad
  | .iastore => zpI bad st fun z r => zpI bad r fun i r => zpR bad r fun a r => zhI bad h[a]? fun n f => if zix i n ∧ 3 ≤ a then go (pc + len) ls r (h.set a (aI n (va_up f i.toNat z))) else bad
  | .bastore => zpI bad st fun z r => zpI bad r fun i r => zpR bad r fun a r => zhZ bad h[a]? fun n f => if zix i n ∧ (z = 0 ∨ z = 1) then go (pc + len) ls r (h.set a (aZ n (va_up f i.toNat z))) else bad
  | .lastore => zpJ bad st fun z r => zpI bad r fun i r => zpR bad r fun a r => zhJ bad h[a]? fun n f => if zix i n then go (pc + len) ls r (h.set a (aJ n (va_up f i.toNat z))) else bad
  | .aastore => zpR bad st fun v r => zpI bad r fun i r => zpR bad r fun a r => zhQ bad h[a]? fun n f => zhO bad h[v]? fun c _ => if zix i n ∧ c = 6 then go (pc + len) ls r (h.set a (aQ n (va_up f i.toNat (some v)))) else bad
  | .arraylength => zpR bad st fun a r => zhA bad h[a]? fun n _ => go (pc + len) ls (vI (n : Int) :: r) h
  | .new ci => go (pc + len) ls (vR h.length :: st) (h ++ [oO ci (zdef ci)])
  | .newarray t => zpI bad st fun n r => if 0 ≤ n ∧ n ≤ 100000 then (match t with
    | .int => go (pc + len) ls (vR h.length :: r) (h ++ [aI n.toNat fun _ => 0])
    | .boolean => go (pc + len) ls (vR h.length :: r) (h ++ [aZ n.toNat fun _ => 0])
    | .long => go (pc + len) ls (vR h.length :: r) (h ++ [aJ n.toNat fun _ => 0])
    | _ => bad) else bad
  | .anewarray _ => zpI bad st fun n r => if 0 ≤ n ∧ n ≤ 100000 then go (pc + len) ls (vR h.length :: r) (h ++ [aQ n.toNat fun _ => none]) else bad
  | .invokevirtual k => if zna k ≤ st.length ∧ zct (st.drop (zna k)) ≤ 8 then zrcv bad h (zow k) (st.take (zna k)).reverse (call k (st.take (zna k)).reverse h fun v h1 => go (pc + len) ls (v.toList ++ st.drop (zna k)) h1) else bad
  | .invokestatic k => if zna k ≤ st.length ∧ zct (st.drop (zna k)) ≤ 8 then call k (st.take (zna k)).reverse h fun v h1 => go (pc + len) ls (v.toList ++ st.drop (zna k)) h1 else bad
  | .invokespecial k => if zna k ≤ st.length ∧ zct (st.drop (zna k)) ≤ 8 then zrcI bad (st.take (zna k)).reverse (call k (st.take (zna k)).reverse h fun v h1 => go (pc + len) ls (v.toList ++ st.drop (zna k)) h1) else bad
  | .pop => zpR bad st fun _ r => if r.length ≤ 4 then go (pc + len) ls r h else bad
  | .invokedynamic b => if b = 1 then (zpI bad st fun y r => zpI bad r fun x r => if (zr x ∧ zr y) ∧ r.length ≤ 4 then go (pc + len) ls (vI (if x < y then y else x) :: r) h else bad)
    else if b = 2 then (zpI bad st fun y r => zpI bad r fun x r => if (zr x ∧ zr y) ∧ r.length ≤ 4 then go (pc + len) ls (vI (if y < x then y else x) :: r) h else bad)
    else if b = 3 then (zpI bad st fun n r => zpI bad r fun dp r => zpR bad r fun a r => zpI bad r fun sp r => zpR bad r fun a0 r => zhA bad h[a0]? fun n0 f0 => zhA bad h[a]? fun n1 f1 =>
      if ((0 ≤ sp ∧ 0 ≤ dp ∧ 0 ≤ n) ∧ sp + n ≤ n0 ∧ dp + n ≤ n1 ∧ sp + n < 2147483648 ∧ dp + n < 2147483648) ∧ (3 ≤ a ∧ 3 ≤ a0) ∧ r.length ≤ 4 then (match f0, f1 with
        | Sum.inl f, Sum.inl g => go (pc + len) ls r (h.set a (aI n1 (va_cpy f g sp.toNat dp.toNat n.toNat)))
        | Sum.inr (Sum.inr (Sum.inl f)), Sum.inr (Sum.inr (Sum.inl g)) => go (pc + len) ls r (h.set a (aJ n1 (va_cpy f g sp.toNat dp.toNat n.toNat)))
        | _, _ => bad) else bad)
    else bad
  | .ireturn => zpI bad st fun z r => if r = [] then ret (some (vI z)) h else bad
  | .freturn => zpI bad st fun z r => if r = [] ∧ (z = 0 ∨ z = 1) then ret (some (vI z)) h else bad
  | .lreturn => zpJ bad st fun z r => if r = [] then ret (some (vJ z)) h else bad
  | .return_ => if st = [] then ret none h else bad
  | _ => bad
/-- a run of a method, for so many steps -/
def zrun : Nat → Nat → Nat → List zV → List zV → zH → Option (Option zV × zH)
  | 0, _, _, _, _, _ => none
  | n + 1, k, pc, ls, st, h => match zat k pc with
    | none => none
    | some (i, len) => zstep none (fun v h => some (v, h)) (fun k' args h kont => if (zexp args).length ≤ zmx k' then (match zrun n k' 0 (zloc k' args) [] h with
        | some (r, h1) => kont r h1
        | none => none) else none) (fun pc ls st h => zrun n k pc ls st h) pc len i ls st h
