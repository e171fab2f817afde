/-! Steps without binders: what simp can run from the inside out -/
abbrev zQ : Type := Option zV → zH → Prop
abbrev zgo : Type := Nat → List zV → List zV → zH → Prop
section
variable (Q : zQ) (g : zgo) (pc t n : Nat) (ls st : List zV) (h : zH)
def eI (v : Option zV) : Prop := zkI False v fun z => g pc ls (vI z :: st) h
def eJ (v : Option zV) : Prop := zkJ False v fun z => g pc ls (vJ z :: st) h
def eP (v : Option zV) : Prop := zkP False v fun z => g pc ls (vP z :: st) h
def eSI (k : Nat) : Prop := zpI False st fun z r => g pc (zset1 ls k (vI z)) r h
def eSJ (k : Nat) : Prop := zpJ False st fun z r => g pc (zset2 ls k (vJ z)) r h
def eSP (k : Nat) : Prop := zpP False st fun z r => g pc (zset1 ls k (vP z)) r h
def eInc (k : Nat) (c : Int) (v : Option zV) : Prop := zkI False v fun z => g pc (zset1 ls k (vI (z + c))) st h
def eAdd : Prop := zpI False st fun y r => zpI False r fun x r => g pc ls (vI (x + y) :: r) h
def eSub : Prop := zpI False st fun y r => zpI False r fun x r => g pc ls (vI (x - y) :: r) h
def eMul : Prop := zpI False st fun y r => zpI False r fun x r => g pc ls (vI (x * y) :: r) h
def eDiv : Prop := zpI False st fun y r => zpI False r fun x r => if (0 ≤ x ∧ x < 2147483648) ∧ 0 < y ∧ y < 2147483648 then g pc ls (vI (x / y) :: r) h else False
def eRem : Prop := zpI False st fun y r => zpI False r fun x r => if zr x ∧ 0 < y ∧ y < 2147483648 then g pc ls (vI (x.tmod y) :: r) h else False
def eAnd : Prop := zpI False st fun y r => zpI False r fun x r => g pc ls (vI (zan x y) :: r) h
def eXor : Prop := zpI False st fun y r => zpI False r fun x r => g pc ls (vI (zxo x y) :: r) h
def eNeg : Prop := zpI False st fun x r => g pc ls (vI (-x) :: r) h
def eIshl : Prop := zpI False st fun s r => zpI False r fun x r => if 0 ≤ s ∧ s < 32 then g pc ls (vI (x * 2 ^ s.toNat) :: r) h else False
def eIshr : Prop := zpI False st fun s r => zpI False r fun x r => if 0 ≤ s ∧ s < 32 then g pc ls (vI (zwr x / 2 ^ s.toNat) :: r) h else False
def eDx2 : Prop := zpop False st fun v r => zpop False r fun w r => zpop False r fun u r => if zc1 v = true ∧ zc1 w = true ∧ zc1 u = true then g pc ls (v :: w :: u :: v :: r) h else False
def ePo2 : Prop := zpop False st fun v r => if zc1 v = true then g pc ls r h else False
def eLand : Prop := zpJ False st fun y r => zpJ False r fun x r => g pc ls (vJ (x &&& y) :: r) h
def eLor : Prop := zpJ False st fun y r => zpJ False r fun x r => g pc ls (vJ (x ||| y) :: r) h
def eLshl : Prop := zpI False st fun s r => zpJ False r fun x r => if 0 ≤ s ∧ s < 64 then g pc ls (vJ (x * 2 ^ s.toNat % 18446744073709551616) :: r) h else False
def eLushr : Prop := zpI False st fun s r => zpJ False r fun x r => if (0 ≤ s ∧ s < 64) ∧ x < 18446744073709551616 then g pc ls (vJ (x / 2 ^ s.toNat) :: r) h else False
def eLcmp : Prop := zpJ False st fun y r => zpJ False r fun x r => if x < 18446744073709551616 ∧ y < 18446744073709551616 then g pc ls (vI (zlc x y) :: r) h else False
def eI2l : Prop := zpI False st fun x r => if zr x then g pc ls (vJ (x % 18446744073709551616).toNat :: r) h else False
def eL2i : Prop := zpJ False st fun x r => g pc ls (vI (x : Int) :: r) h
def eDup : Prop := zpop False st fun v r => if zc1 v = true then g pc ls (v :: v :: r) h else False
def eDup2 : Prop := zpop False st fun v r => zpop False r fun w r => if zc1 v = true ∧ zc1 w = true then g pc ls (v :: w :: v :: w :: r) h else False
def eBr (c : Jvm.ClassFile.Cond) (x y : Int) : Prop := zbr c x y (g t ls st h) (g n ls st h)
def eIf (c : Jvm.ClassFile.Cond) : Prop := zpI False st fun z r => if zr z then eBr g t n ls r h c z 0 else False
def eIc (c : Jvm.ClassFile.Cond) : Prop := zpI False st fun y r => zpI False r fun x r => if zr x ∧ zr y then eBr g t n ls r h c x y else False
def eNn : Prop := zpP False st fun p r => match p with
    | some _ => g t ls r h
    | none => g n ls r h
def eTs (d lo hi : Int) (os : Array Int) : Prop := zpI False st fun z r => if zr z then (if z < lo ∨ hi < z then (if 0 ≤ (pc : Int) + d then g ((pc : Int) + d).toNat ls r h else False) else match os[(z - lo).toNat]? with
    | some o => if 0 ≤ (pc : Int) + o then g ((pc : Int) + o).toNat ls r h else False
    | none => False) else False
def eG3 (v : Option zV) : Prop := match v with
    | some v => g pc ls (v :: st) h
    | none => False
def eG2 (ci sl : Nat) (c : Option zE) : Prop := zhO False c fun c fs => if c = ci then eG3 g pc ls st h fs[sl]? else False
def eGf (ci sl : Nat) : Prop := zpR False st fun a r => eG2 g pc ls r h ci sl h[a]?
def eP2 (ci sl : Nat) (v : zV) (a : Nat) (c : Option zE) : Prop := zhO False c fun c fs => if (c = ci ∧ sl < fs.length) ∧ zfit (zkind ci sl) v = true then g pc ls st (h.set a (oO c (fs.set sl v))) else False
def ePf (ci sl : Nat) : Prop := zpop False st fun v r => zpR False r fun a r => eP2 g pc ls r h ci sl v a h[a]?
def eAI2 (i : Int) (c : Option zE) : Prop := zhI False c fun n f => if zix i n then g pc ls (vI (f i.toNat) :: st) h else False
def eAJ2 (i : Int) (c : Option zE) : Prop := zhJ False c fun n f => if zix i n then g pc ls (vJ (f i.toNat) :: st) h else False
def eAZ2 (i : Int) (c : Option zE) : Prop := zhZ False c fun n f => if zix i n then g pc ls (vI (f i.toNat) :: st) h else False
def eAQ2 (i : Int) (c : Option zE) : Prop := zhQ False c fun n f => if zix i n then g pc ls (vP (f i.toNat) :: st) h else False
def eAI : Prop := zpI False st fun i r => zpR False r fun a r => eAI2 g pc ls r h i h[a]?
def eAJ : Prop := zpI False st fun i r => zpR False r fun a r => eAJ2 g pc ls r h i h[a]?
def eAZ : Prop := zpI False st fun i r => zpR False r fun a r => eAZ2 g pc ls r h i h[a]?
def eAQ : Prop := zpI False st fun i r => zpR False r fun a r => eAQ2 g pc ls r h i h[a]?
def eXI2 (z i : Int) (a : Nat) (c : Option zE) : Prop := zhI False c fun n f => if zix i n ∧ 3 ≤ a then g pc ls st (h.set a (aI n (va_up f i.toNat z))) else False
def eXZ2 (z i : Int) (a : Nat) (c : Option zE) : Prop := zhZ False c fun n f => if zix i n ∧ (z = 0 ∨ z = 1) then g pc ls st (h.set a (aZ n (va_up f i.toNat z))) else False
def eXJ2 (z : Nat) (i : Int) (a : Nat) (c : Option zE) : Prop := zhJ False c fun n f => if zix i n then g pc ls st (h.set a (aJ n (va_up f i.toNat z))) else False
def eXQ2 (v : Nat) (i : Int) (a : Nat) (c d : Option zE) : Prop := zhQ False c fun n f => zhO False d fun c _ => if zix i n ∧ c = 6 then g pc ls st (h.set a (aQ n (va_up f i.toNat (some v)))) else False
def eXI : Prop := zpI False st fun z r => zpI False r fun i r => zpR False r fun a r => eXI2 g pc ls r h z i a h[a]?
def eXZ : Prop := zpI False st fun z r => zpI False r fun i r => zpR False r fun a r => eXZ2 g pc ls r h z i a h[a]?
def eXJ : Prop := zpJ False st fun z r => zpI False r fun i r => zpR False r fun a r => eXJ2 g pc ls r h z i a h[a]?
def eXQ : Prop := zpR False st fun v r => zpI False r fun i r => zpR False r fun a r => eXQ2 g pc ls r h v i a h[a]? h[v]?
def eL2 (c : Option zE) : Prop := zhA False c fun n _ => g pc ls (vI (n : Int) :: st) h
def eLn : Prop := zpR False st fun a r => eL2 g pc ls r h h[a]?
def eNa (t : ArrayType) : Prop := zpI False st fun n r => if 0 ≤ n ∧ n ≤ 100000 then (match t with
    | .int => g pc ls (vR h.length :: r) (h ++ [aI n.toNat fun _ => 0])
    | .boolean => g pc ls (vR h.length :: r) (h ++ [aZ n.toNat fun _ => 0])
    | .long => g pc ls (vR h.length :: r) (h ++ [aJ n.toNat fun _ => 0])
    | _ => False) else False
def eNq : Prop := zpI False st fun n r => if 0 ≤ n ∧ n ≤ 100000 then g pc ls (vR h.length :: r) (h ++ [aQ n.toNat fun _ => none]) else False
def eK : zQ := fun v h1 => g pc ls (v.toList ++ st) h1
def eR2 (c : Nat) (P : Prop) (e : Option zE) : Prop := zhO False e fun c' _ => if c' = c then P else False
def eRv (c : Nat) (as : List zV) (P : Prop) : Prop := zrcv False h c as P
def eRi (as : List zV) (P : Prop) : Prop := zrcI False as P
def eCv (k : Nat) : Prop := if zna k ≤ st.length ∧ zct (st.drop (zna k)) ≤ 8 then eRv h (zow k) (st.take (zna k)).reverse (Ca k (st.take (zna k)).reverse h (eK g pc ls (st.drop (zna k)))) else False
def eCs (k : Nat) : Prop := if zna k ≤ st.length ∧ zct (st.drop (zna k)) ≤ 8 then Ca k (st.take (zna k)).reverse h (eK g pc ls (st.drop (zna k))) else False
def eCi (k : Nat) : Prop := if zna k ≤ st.length ∧ zct (st.drop (zna k)) ≤ 8 then eRi (st.take (zna k)).reverse (Ca k (st.take (zna k)).reverse h (eK g pc ls (st.drop (zna k)))) else False
def ePop : Prop := zpR False st fun _ r => if r.length ≤ 4 then g pc ls r h else False
def eMx : Prop := zpI False st fun y r => zpI False r fun x r => if (zr x ∧ zr y) ∧ r.length ≤ 4 then g pc ls (vI (if x < y then y else x) :: r) h else False
def eMn : Prop := zpI False st fun y r => zpI False r fun x r => if (zr x ∧ zr y) ∧ r.length ≤ 4 then g pc ls (vI (if y < x then y else x) :: r) h else False
def eCp2 (n dp sp : Int) (a a0 : Nat) (c0 c1 : Option zE) : Prop := zhA False c0 fun n0 f0 => zhA False c1 fun n1 f1 =>
      if ((0 ≤ sp ∧ 0 ≤ dp ∧ 0 ≤ n) ∧ sp + n ≤ n0 ∧ dp + n ≤ n1 ∧ sp + n < 2147483648 ∧ dp + n < 2147483648) ∧ (3 ≤ a ∧ 3 ≤ a0) ∧ st.length ≤ 4 then (match f0, f1 with
        | Sum.inl f, Sum.inl f1 => g pc ls st (h.set a (aI n1 (va_cpy f f1 sp.toNat dp.toNat n.toNat)))
        | Sum.inr (Sum.inr (Sum.inl f)), Sum.inr (Sum.inr (Sum.inl f1)) => g pc ls st (h.set a (aJ n1 (va_cpy f f1 sp.toNat dp.toNat n.toNat)))
        | _, _ => False) else False
def eCp : Prop := zpI False st fun n r => zpI False r fun dp r => zpR False r fun a r => zpI False r fun sp r => zpR False r fun a0 r => eCp2 g pc ls r h n dp sp a a0 h[a0]? h[a]?
def eJd (b : Nat) : Prop := if b = 1 then eMx g pc ls st h else if b = 2 then eMn g pc ls st h else if b = 3 then eCp g pc ls st h else False
def eRI : Prop := zpI False st fun z r => if r = [] then Q (some (vI z)) h else False
def eRZ : Prop := zpI False st fun z r => if r = [] ∧ (z = 0 ∨ z = 1) then Q (some (vI z)) h else False
def eRJ : Prop := zpJ False st fun z r => if r = [] then Q (some (vJ z)) h else False
def eRV : Prop := if st = [] then Q none h else False
end
def eX (Q : zQ) (g : zgo) (pc : Nat) (ls st : List zV) (h : zH) (i : Instr) (len : Nat) : Prop :=
  match i with
  | .iconst z => g (pc + len) ls (vI z :: st) h
  | .ldc2_w n => g (pc + len) ls (vJ n :: st) h
  | .iload n => eI g (pc + len) ls st h ls[n]?
  | .lload n => eJ g (pc + len) ls st h ls[n]?
  | .aload n => eP g (pc + len) ls st h ls[n]?
  | .istore n => eSI g (pc + len) ls st h n
  | .lstore n => eSJ g (pc + len) ls st h n
  | .astore n => eSP g (pc + len) ls st h n
  | .iinc n c => eInc g (pc + len) ls st h n c ls[n]?
  | .iadd => eAdd g (pc + len) ls st h
  | .isub => eSub g (pc + len) ls st h
  | .imul => eMul g (pc + len) ls st h
  | .idiv => eDiv g (pc + len) ls st h
  | .irem => eRem g (pc + len) ls st h
  | .iand => eAnd g (pc + len) ls st h
  | .ishl => eIshl g (pc + len) ls st h
  | .ishr => eIshr g (pc + len) ls st h
  | .ixor => eXor g (pc + len) ls st h
  | .ineg => eNeg g (pc + len) ls st h
  | .dup_x2 => eDx2 g (pc + len) ls st h
  | .pop2 => ePo2 g (pc + len) ls st h
  | .land => eLand g (pc + len) ls st h
  | .lor => eLor g (pc + len) ls st h
  | .lshl => eLshl g (pc + len) ls st h
  | .lushr => eLushr g (pc + len) ls st h
  | .lcmp => eLcmp g (pc + len) ls st h
  | .i2l => eI2l g (pc + len) ls st h
  | .l2i => eL2i g (pc + len) ls st h
  | .dup => eDup g (pc + len) ls st h
  | .dup2 => eDup2 g (pc + len) ls st h
  | .ifCond c o => eIf g o.toNat (pc + len) ls st h c
  | .if_icmp c o => eIc g o.toNat (pc + len) ls st h c
  | .goto o => g o.toNat ls st h
  | .ifnonnull o => eNn g o.toNat (pc + len) ls st h
  | .tableswitch d lo hi os => eTs g pc ls st h d lo hi os
  | .invokeinterface ci sl => eGf g (pc + len) ls st h ci sl
  | .multianewarray ci sl => ePf g (pc + len) ls st h ci sl
  | .getstatic k => g (pc + len) ls (vR k :: st) h
  | .iaload => eAI g (pc + len) ls st h
  | .laload => eAJ g (pc + len) ls st h
  | .baload => eAZ g (pc + len) ls st h
  | .aaload => eAQ g (pc + len) ls st h
  | .iastore => eXI g (pc + len) ls st h
  | .bastore => eXZ g (pc + len) ls st h
  | .lastore => eXJ g (pc + len) ls st h
  | .aastore => eXQ g (pc + len) ls st h
  | .arraylength => eLn g (pc + len) ls st h
  | .new ci => g (pc + len) ls (vR h.length :: st) (h ++ [oO ci (zdef ci)])
  | .newarray t => eNa g (pc + len) ls st h t
  | .anewarray _ => eNq g (pc + len) ls st h
  | .invokevirtual k => eCv g (pc + len) ls st h k
  | .invokestatic k => eCs g (pc + len) ls st h k
  | .invokespecial k => eCi g (pc + len) ls st h k
  | .pop => ePop g (pc + len) ls st h
  | .invokedynamic b => eJd g (pc + len) ls st h b
  | .ireturn => eRI Q st h
  | .freturn => eRZ Q st h
  | .lreturn => eRJ Q st h
  | .return_ => eRV Q st h
  | _ => False
theorem eX_eq (Q : zQ) (g : zgo) (pc : Nat) (ls st : List zV) (h : zH) (i : Instr) (len : Nat) : eX Q g pc ls st h i len = zstep False Q Ca g pc len i ls st h := by
  cases i <;> rfl
def eM (Q : zQ) (g : zgo) (pc : Nat) (ls st : List zV) (h : zH) (o : Option (Instr × Nat)) : Prop := match o with
  | none => False
  | some (i, len) => eX Q g pc ls st h i len
def Ge (S : Nat → Bool) (k : Nat) (Q : zQ) : Nat → Nat → List zV → List zV → zH → Prop
  | 0, pc, ls, st, h => Go k pc ls st h Q
  | f + 1, pc, ls, st, h => if S pc = true then Go k pc ls st h Q else eM Q (Ge S k Q f) pc ls st h (zat k pc)
theorem Ge_eq (S : Nat → Bool) (k : Nat) (Q : zQ) : ∀ (f pc : Nat) (ls st : List zV) (h : zH), Ge S k Q f pc ls st h ↔ Go k pc ls st h Q := by
  intro f
  induction f with
  | zero => intro pc ls st h; exact Iff.rfl
  | succ f ih =>
    intro pc ls st h
    unfold Ge
    split
    · exact Iff.rfl
    · have e : Ge S k Q f = fun pc ls st h => Go k pc ls st h Q := by
        funext pc ls st h
        exact propext (ih pc ls st h)
      rw [e, Go_eq]
      cases hat : zat k pc with
      | none => exact Iff.rfl
      | some q =>
        obtain ⟨i, len⟩ := q
        exact iff_of_eq (eX_eq Q (fun pc ls st h => Go k pc ls st h Q) pc ls st h i len)
theorem Go_on (S : Nat → Bool) (f : Nat) {k pc : Nat} {ls st : List zV} {h : zH} {Q : zQ} (hs : eM Q (Ge S k Q f) pc ls st h (zat k pc)) : Go k pc ls st h Q := by
  have e : Ge S k Q f = fun pc ls st h => Go k pc ls st h Q := by
    funext pc ls st h
    exact propext (Ge_eq S k Q f pc ls st h)
  rw [e] at hs
  rw [Go_eq]
  cases hat : zat k pc with
  | none =>
    rw [hat] at hs
    exact hs
  | some q =>
    obtain ⟨i, len⟩ := q
    rw [hat] at hs
    have hs : eX Q (fun pc ls st h => Go k pc ls st h Q) pc ls st h i len := hs
    rw [eX_eq] at hs
    exact hs
theorem Ge_0 (S : Nat → Bool) (k : Nat) (Q : zQ) (pc : Nat) (ls st : List zV) (h : zH) : Ge S k Q 0 pc ls st h = Go k pc ls st h Q := rfl
theorem Ge_s (S : Nat → Bool) (k : Nat) (Q : zQ) (f pc : Nat) (ls st : List zV) (h : zH) : Ge S k Q (f + 1) pc ls st h = if S pc = true then Go k pc ls st h Q else eM Q (Ge S k Q f) pc ls st h (zat k pc) := Eq.trans rfl rfl
theorem eM_s (Q : zQ) (g : zgo) (pc : Nat) (ls st : List zV) (h : zH) (i : Instr) (len : Nat) : eM Q g pc ls st h (some (i, len)) = eX Q g pc ls st h i len := Eq.trans rfl rfl
section
variable (Q : zQ) (g : zgo) (pc t n : Nat) (ls st r : List zV) (h : zH)
theorem eI_s (z : Int) : eI g pc ls st h (some (vI z)) = g pc ls (vI z :: st) h := Eq.trans rfl rfl
theorem eJ_s (z : Nat) : eJ g pc ls st h (some (vJ z)) = g pc ls (vJ z :: st) h := Eq.trans rfl rfl
theorem eP_s (z : Option Nat) : eP g pc ls st h (some (vP z)) = g pc ls (vP z :: st) h := Eq.trans rfl rfl
theorem eSI_s (z : Int) (k : Nat) : eSI g pc ls (vI z :: r) h k = g pc (zset1 ls k (vI z)) r h := Eq.trans rfl rfl
theorem eSJ_s (z k : Nat) : eSJ g pc ls (vJ z :: r) h k = g pc (zset2 ls k (vJ z)) r h := Eq.trans rfl rfl
theorem eSP_s (z : Option Nat) (k : Nat) : eSP g pc ls (vP z :: r) h k = g pc (zset1 ls k (vP z)) r h := Eq.trans rfl rfl
theorem eInc_s (k : Nat) (c z : Int) : eInc g pc ls st h k c (some (vI z)) = g pc (zset1 ls k (vI (z + c))) st h := Eq.trans rfl rfl
theorem eAdd_s (x y : Int) : eAdd g pc ls (vI y :: vI x :: r) h = g pc ls (vI (x + y) :: r) h := Eq.trans rfl rfl
theorem eSub_s (x y : Int) : eSub g pc ls (vI y :: vI x :: r) h = g pc ls (vI (x - y) :: r) h := Eq.trans rfl rfl
theorem eMul_s (x y : Int) : eMul g pc ls (vI y :: vI x :: r) h = g pc ls (vI (x * y) :: r) h := Eq.trans rfl rfl
theorem eDiv_s (x y : Int) : eDiv g pc ls (vI y :: vI x :: r) h ↔ (((0 ≤ x ∧ x < 2147483648) ∧ 0 < y ∧ y < 2147483648) ∧ g pc ls (vI (x / y) :: r) h) := zif_F
theorem eRem_s (x y : Int) : eRem g pc ls (vI y :: vI x :: r) h ↔ ((zr x ∧ 0 < y ∧ y < 2147483648) ∧ g pc ls (vI (x.tmod y) :: r) h) := zif_F
theorem eAnd_s (x y : Int) : eAnd g pc ls (vI y :: vI x :: r) h = g pc ls (vI (zan x y) :: r) h := Eq.trans rfl rfl
theorem eXor_s (x y : Int) : eXor g pc ls (vI y :: vI x :: r) h = g pc ls (vI (zxo x y) :: r) h := Eq.trans rfl rfl
theorem eNeg_s (x : Int) : eNeg g pc ls (vI x :: r) h = g pc ls (vI (-x) :: r) h := Eq.trans rfl rfl
theorem eIshl_s (x s : Int) : eIshl g pc ls (vI s :: vI x :: r) h ↔ ((0 ≤ s ∧ s < 32) ∧ g pc ls (vI (x * 2 ^ s.toNat) :: r) h) := zif_F
theorem eIshr_s (x s : Int) : eIshr g pc ls (vI s :: vI x :: r) h ↔ ((0 ≤ s ∧ s < 32) ∧ g pc ls (vI (zwr x / 2 ^ s.toNat) :: r) h) := zif_F
theorem eDx2_s (v w u : zV) : eDx2 g pc ls (v :: w :: u :: r) h ↔ ((zc1 v = true ∧ zc1 w = true ∧ zc1 u = true) ∧ g pc ls (v :: w :: u :: v :: r) h) := zif_F
theorem ePo2_s (v : zV) : ePo2 g pc ls (v :: r) h ↔ (zc1 v = true ∧ g pc ls r h) := zif_F
theorem zan_31 (x : Int) : zan x 31 = x % 32 := Eq.trans rfl rfl
theorem zan_255 (x : Int) : zan x 255 = x % 256 := Eq.trans rfl rfl
theorem zan_1 (x : Int) : zan x 1 = x % 2 := Eq.trans rfl rfl
theorem zan_15 (x : Int) : zan x 15 = x % 16 := Eq.trans rfl rfl
theorem zan_m (x : Int) : zan x 2147483647 = x % 2147483648 := Eq.trans rfl rfl
theorem zwr_in {x : Int} (h : zr x) : zwr x = x := by unfold zwr; unfold zr at h; omega
theorem eLand_s (x y : Nat) : eLand g pc ls (vJ y :: vJ x :: r) h = g pc ls (vJ (x &&& y) :: r) h := Eq.trans rfl rfl
theorem eLor_s (x y : Nat) : eLor g pc ls (vJ y :: vJ x :: r) h = g pc ls (vJ (x ||| y) :: r) h := Eq.trans rfl rfl
theorem eLshl_s (x : Nat) (s : Int) : eLshl g pc ls (vI s :: vJ x :: r) h ↔ ((0 ≤ s ∧ s < 64) ∧ g pc ls (vJ (x * 2 ^ s.toNat % 18446744073709551616) :: r) h) := zif_F
theorem eLushr_s (x : Nat) (s : Int) : eLushr g pc ls (vI s :: vJ x :: r) h ↔ (((0 ≤ s ∧ s < 64) ∧ x < 18446744073709551616) ∧ g pc ls (vJ (x / 2 ^ s.toNat) :: r) h) := zif_F
theorem eLcmp_s (x y : Nat) : eLcmp g pc ls (vJ y :: vJ x :: r) h ↔ ((x < 18446744073709551616 ∧ y < 18446744073709551616) ∧ g pc ls (vI (zlc x y) :: r) h) := zif_F
theorem eI2l_s (x : Int) : eI2l g pc ls (vI x :: r) h ↔ (zr x ∧ g pc ls (vJ (x % 18446744073709551616).toNat :: r) h) := zif_F
theorem eL2i_s (x : Nat) : eL2i g pc ls (vJ x :: r) h = g pc ls (vI (x : Int) :: r) h := Eq.trans rfl rfl
theorem eDup_s (v : zV) : eDup g pc ls (v :: r) h ↔ (zc1 v = true ∧ g pc ls (v :: v :: r) h) := zif_F
theorem eDup2_s (v w : zV) : eDup2 g pc ls (v :: w :: r) h ↔ ((zc1 v = true ∧ zc1 w = true) ∧ g pc ls (v :: w :: v :: w :: r) h) := zif_F
theorem eIf_s (c : Jvm.ClassFile.Cond) (z : Int) : eIf g t n ls (vI z :: r) h c ↔ (zr z ∧ eBr g t n ls r h c z 0) := zif_F
theorem eIc_s (c : Jvm.ClassFile.Cond) (x y : Int) : eIc g t n ls (vI y :: vI x :: r) h c ↔ ((zr x ∧ zr y) ∧ eBr g t n ls r h c x y) := zif_F
theorem eBr_eq (x y : Int) : eBr g t n ls r h .eq x y = if x = y then g t ls r h else g n ls r h := Eq.trans rfl rfl
theorem eBr_ne (x y : Int) : eBr g t n ls r h .ne x y = if x = y then g n ls r h else g t ls r h := Eq.trans rfl rfl
theorem eBr_lt (x y : Int) : eBr g t n ls r h .lt x y = if x < y then g t ls r h else g n ls r h := Eq.trans rfl rfl
theorem eBr_ge (x y : Int) : eBr g t n ls r h .ge x y = if x < y then g n ls r h else g t ls r h := Eq.trans rfl rfl
theorem eBr_gt (x y : Int) : eBr g t n ls r h .gt x y = if y < x then g t ls r h else g n ls r h := Eq.trans rfl rfl
theorem eBr_le (x y : Int) : eBr g t n ls r h .le x y = if y < x then g n ls r h else g t ls r h := Eq.trans rfl rfl
theorem eNn_s (a : Nat) : eNn g t n ls (vP (some a) :: r) h = g t ls r h := Eq.trans rfl rfl
theorem eNn_n : eNn g t n ls (vP none :: r) h = g n ls r h := Eq.trans rfl rfl
theorem eG3_s (v : zV) : eG3 g pc ls st h (some v) = g pc ls (v :: st) h := Eq.trans rfl rfl
theorem eG2_s (ci sl c : Nat) (fs : List zV) : eG2 g pc ls st h ci sl (some (oO c fs)) ↔ (c = ci ∧ eG3 g pc ls st h fs[sl]?) := zif_F
theorem eGf_s (ci sl a : Nat) : eGf g pc ls (vP (some a) :: r) h ci sl = eG2 g pc ls r h ci sl h[a]? := Eq.trans rfl rfl
theorem eP2_s (ci sl a c : Nat) (v : zV) (fs : List zV) : eP2 g pc ls st h ci sl v a (some (oO c fs)) ↔ (((c = ci ∧ sl < fs.length) ∧ zfit (zkind ci sl) v = true) ∧ g pc ls st (h.set a (oO c (fs.set sl v)))) := zif_F
theorem ePf_s (ci sl a : Nat) (v : zV) : ePf g pc ls (v :: vP (some a) :: r) h ci sl = eP2 g pc ls r h ci sl v a h[a]? := Eq.trans rfl rfl
theorem eAI2_s (i : Int) (n : Nat) (f : Nat → Int) : eAI2 g pc ls st h i (some (aI n f)) ↔ (zix i n ∧ g pc ls (vI (f i.toNat) :: st) h) := zif_F
theorem eAZ2_s (i : Int) (n : Nat) (f : Nat → Int) : eAZ2 g pc ls st h i (some (aZ n f)) ↔ (zix i n ∧ g pc ls (vI (f i.toNat) :: st) h) := zif_F
theorem eAJ2_s (i : Int) (n : Nat) (f : Nat → Nat) : eAJ2 g pc ls st h i (some (aJ n f)) ↔ (zix i n ∧ g pc ls (vJ (f i.toNat) :: st) h) := zif_F
theorem eAQ2_s (i : Int) (n : Nat) (f : Nat → Option Nat) : eAQ2 g pc ls st h i (some (aQ n f)) ↔ (zix i n ∧ g pc ls (vP (f i.toNat) :: st) h) := zif_F
theorem eAI_s (i : Int) (a : Nat) : eAI g pc ls (vI i :: vP (some a) :: r) h = eAI2 g pc ls r h i h[a]? := Eq.trans rfl rfl
theorem eAZ_s (i : Int) (a : Nat) : eAZ g pc ls (vI i :: vP (some a) :: r) h = eAZ2 g pc ls r h i h[a]? := Eq.trans rfl rfl
theorem eAJ_s (i : Int) (a : Nat) : eAJ g pc ls (vI i :: vP (some a) :: r) h = eAJ2 g pc ls r h i h[a]? := Eq.trans rfl rfl
theorem eAQ_s (i : Int) (a : Nat) : eAQ g pc ls (vI i :: vP (some a) :: r) h = eAQ2 g pc ls r h i h[a]? := Eq.trans rfl rfl
theorem eXI2_s (z i : Int) (a n : Nat) (f : Nat → Int) : eXI2 g pc ls st h z i a (some (aI n f)) ↔ ((zix i n ∧ 3 ≤ a) ∧ g pc ls st (h.set a (aI n (va_up f i.toNat z)))) := zif_F
theorem eXZ2_s (z i : Int) (a n : Nat) (f : Nat → Int) : eXZ2 g pc ls st h z i a (some (aZ n f)) ↔ ((zix i n ∧ (z = 0 ∨ z = 1)) ∧ g pc ls st (h.set a (aZ n (va_up f i.toNat z)))) := zif_F
theorem eXJ2_s (z : Nat) (i : Int) (a n : Nat) (f : Nat → Nat) : eXJ2 g pc ls st h z i a (some (aJ n f)) ↔ (zix i n ∧ g pc ls st (h.set a (aJ n (va_up f i.toNat z)))) := zif_F
theorem eXQ2_s (v : Nat) (i : Int) (a n c : Nat) (f : Nat → Option Nat) (fs : List zV) : eXQ2 g pc ls st h v i a (some (aQ n f)) (some (oO c fs)) ↔ ((zix i n ∧ c = 6) ∧ g pc ls st (h.set a (aQ n (va_up f i.toNat (some v))))) := zif_F
theorem eXI_s (z i : Int) (a : Nat) : eXI g pc ls (vI z :: vI i :: vP (some a) :: r) h = eXI2 g pc ls r h z i a h[a]? := Eq.trans rfl rfl
theorem eXZ_s (z i : Int) (a : Nat) : eXZ g pc ls (vI z :: vI i :: vP (some a) :: r) h = eXZ2 g pc ls r h z i a h[a]? := Eq.trans rfl rfl
theorem eXJ_s (z : Nat) (i : Int) (a : Nat) : eXJ g pc ls (vJ z :: vI i :: vP (some a) :: r) h = eXJ2 g pc ls r h z i a h[a]? := Eq.trans rfl rfl
theorem eXQ_s (v : Nat) (i : Int) (a : Nat) : eXQ g pc ls (vP (some v) :: vI i :: vP (some a) :: r) h = eXQ2 g pc ls r h v i a h[a]? h[v]? := Eq.trans rfl rfl
theorem eL2_s (n : Nat) (f : zA) : eL2 g pc ls st h (some (Sum.inl (n, f))) = g pc ls (vI (n : Int) :: st) h := Eq.trans rfl rfl
theorem eLn_s (a : Nat) : eLn g pc ls (vP (some a) :: r) h = eL2 g pc ls r h h[a]? := Eq.trans rfl rfl
theorem eNa_i (n : Int) : eNa g pc ls (vI n :: r) h .int ↔ ((0 ≤ n ∧ n ≤ 100000) ∧ g pc ls (vR h.length :: r) (h ++ [aI n.toNat fun _ => 0])) := zif_F
theorem eNa_z (n : Int) : eNa g pc ls (vI n :: r) h .boolean ↔ ((0 ≤ n ∧ n ≤ 100000) ∧ g pc ls (vR h.length :: r) (h ++ [aZ n.toNat fun _ => 0])) := zif_F
theorem eNa_j (n : Int) : eNa g pc ls (vI n :: r) h .long ↔ ((0 ≤ n ∧ n ≤ 100000) ∧ g pc ls (vR h.length :: r) (h ++ [aJ n.toNat fun _ => 0])) := zif_F
theorem eNq_s (n : Int) : eNq g pc ls (vI n :: r) h ↔ ((0 ≤ n ∧ n ≤ 100000) ∧ g pc ls (vR h.length :: r) (h ++ [aQ n.toNat fun _ => none])) := zif_F
theorem eK_s (v : zV) : eK g pc ls st (some v) h = g pc ls (v :: st) h := Eq.trans rfl rfl
theorem eK_n : eK g pc ls st none h = g pc ls st h := Eq.trans rfl rfl
theorem eR2_s (c c' : Nat) (fs : List zV) (P : Prop) : eR2 c P (some (oO c' fs)) ↔ (c' = c ∧ P) := zif_F
theorem eRv_s (c a : Nat) (as : List zV) (P : Prop) : eRv h c (vP (some a) :: as) P = eR2 c P h[a]? := Eq.trans rfl rfl
theorem eRi_s (a : Nat) (as : List zV) (P : Prop) : eRi (vP (some a) :: as) P = P := Eq.trans rfl rfl
theorem eCv_s (k : Nat) : eCv g pc ls st h k ↔ ((zna k ≤ st.length ∧ zct (st.drop (zna k)) ≤ 8) ∧ eRv h (zow k) (st.take (zna k)).reverse (Ca k (st.take (zna k)).reverse h (eK g pc ls (st.drop (zna k))))) := zif_F
theorem eCs_s (k : Nat) : eCs g pc ls st h k ↔ ((zna k ≤ st.length ∧ zct (st.drop (zna k)) ≤ 8) ∧ Ca k (st.take (zna k)).reverse h (eK g pc ls (st.drop (zna k)))) := zif_F
theorem eCi_s (k : Nat) : eCi g pc ls st h k ↔ ((zna k ≤ st.length ∧ zct (st.drop (zna k)) ≤ 8) ∧ eRi (st.take (zna k)).reverse (Ca k (st.take (zna k)).reverse h (eK g pc ls (st.drop (zna k))))) := zif_F
theorem ePop_s (a : Nat) : ePop g pc ls (vP (some a) :: r) h ↔ (r.length ≤ 4 ∧ g pc ls r h) := zif_F
theorem eMx_s (x y : Int) : eMx g pc ls (vI y :: vI x :: r) h ↔ (((zr x ∧ zr y) ∧ r.length ≤ 4) ∧ g pc ls (vI (if x < y then y else x) :: r) h) := zif_F
theorem eMn_s (x y : Int) : eMn g pc ls (vI y :: vI x :: r) h ↔ (((zr x ∧ zr y) ∧ r.length ≤ 4) ∧ g pc ls (vI (if y < x then y else x) :: r) h) := zif_F
theorem eCp_s (n dp sp : Int) (a a0 : Nat) : eCp g pc ls (vI n :: vI dp :: vP (some a) :: vI sp :: vP (some a0) :: r) h = eCp2 g pc ls r h n dp sp a a0 h[a0]? h[a]? := Eq.trans rfl rfl
theorem eCp2_i (n dp sp : Int) (a a0 n0 n1 : Nat) (f f1 : Nat → Int) : eCp2 g pc ls st h n dp sp a a0 (some (aI n0 f)) (some (aI n1 f1)) ↔ ((((0 ≤ sp ∧ 0 ≤ dp ∧ 0 ≤ n) ∧ sp + n ≤ n0 ∧ dp + n ≤ n1 ∧ sp + n < 2147483648 ∧ dp + n < 2147483648) ∧ (3 ≤ a ∧ 3 ≤ a0) ∧ st.length ≤ 4) ∧ g pc ls st (h.set a (aI n1 (va_cpy f f1 sp.toNat dp.toNat n.toNat)))) := zif_F
theorem eCp2_j (n dp sp : Int) (a a0 n0 n1 : Nat) (f f1 : Nat → Nat) : eCp2 g pc ls st h n dp sp a a0 (some (aJ n0 f)) (some (aJ n1 f1)) ↔ ((((0 ≤ sp ∧ 0 ≤ dp ∧ 0 ≤ n) ∧ sp + n ≤ n0 ∧ dp + n ≤ n1 ∧ sp + n < 2147483648 ∧ dp + n < 2147483648) ∧ (3 ≤ a ∧ 3 ≤ a0) ∧ st.length ≤ 4) ∧ g pc ls st (h.set a (aJ n1 (va_cpy f f1 sp.toNat dp.toNat n.toNat)))) := zif_F
theorem eJd_1 : eJd g pc ls st h 1 = eMx g pc ls st h := Eq.trans rfl rfl
theorem eJd_2 : eJd g pc ls st h 2 = eMn g pc ls st h := Eq.trans rfl rfl
theorem eJd_3 : eJd g pc ls st h 3 = eCp g pc ls st h := Eq.trans rfl rfl
theorem eRI_s (z : Int) : eRI Q [vI z] h ↔ Q (some (vI z)) h := by
  show (if ([] : List zV) = [] then Q (some (vI z)) h else False) ↔ _
  rw [if_pos rfl]
theorem eRZ_s (z : Int) : eRZ Q [vI z] h ↔ ((z = 0 ∨ z = 1) ∧ Q (some (vI z)) h) := by
  show (if ([] : List zV) = [] ∧ (z = 0 ∨ z = 1) then Q (some (vI z)) h else False) ↔ _
  by_cases hz : z = 0 ∨ z = 1
  · rw [if_pos ⟨rfl, hz⟩]; exact ⟨fun x => ⟨hz, x⟩, fun x => x.2⟩
  · rw [if_neg (fun x => hz x.2)]; exact ⟨fun x => x.elim, fun x => hz x.1⟩
theorem eRJ_s (z : Nat) : eRJ Q [vJ z] h ↔ Q (some (vJ z)) h := by
  show (if ([] : List zV) = [] then Q (some (vJ z)) h else False) ↔ _
  rw [if_pos rfl]
theorem eRV_s : eRV Q [] h ↔ Q none h := by
  show (if ([] : List zV) = [] then Q none h else False) ↔ _
  rw [if_pos rfl]
end
section
variable (Q : zQ) (g : zgo) (pc : Nat) (ls st : List zV) (h : zH) (len : Nat)
theorem eX_iconst : ∀ z, eX Q g pc ls st h (.iconst z) len = g (pc + len) ls (vI z :: st) h := fun _ => Eq.trans rfl rfl
theorem eX_ldc2w : ∀ n, eX Q g pc ls st h (.ldc2_w n) len = g (pc + len) ls (vJ n :: st) h := fun _ => Eq.trans rfl rfl
theorem eX_iload : ∀ n, eX Q g pc ls st h (.iload n) len = eI g (pc + len) ls st h ls[n]? := fun _ => Eq.trans rfl rfl
theorem eX_lload : ∀ n, eX Q g pc ls st h (.lload n) len = eJ g (pc + len) ls st h ls[n]? := fun _ => Eq.trans rfl rfl
theorem eX_aload : ∀ n, eX Q g pc ls st h (.aload n) len = eP g (pc + len) ls st h ls[n]? := fun _ => Eq.trans rfl rfl
theorem eX_istore : ∀ n, eX Q g pc ls st h (.istore n) len = eSI g (pc + len) ls st h n := fun _ => Eq.trans rfl rfl
theorem eX_lstore : ∀ n, eX Q g pc ls st h (.lstore n) len = eSJ g (pc + len) ls st h n := fun _ => Eq.trans rfl rfl
theorem eX_astore : ∀ n, eX Q g pc ls st h (.astore n) len = eSP g (pc + len) ls st h n := fun _ => Eq.trans rfl rfl
theorem eX_iinc : ∀ n c, eX Q g pc ls st h (.iinc n c) len = eInc g (pc + len) ls st h n c ls[n]? := fun _ _ => Eq.trans rfl rfl
theorem eX_iadd : eX Q g pc ls st h (.iadd) len = eAdd g (pc + len) ls st h := Eq.trans rfl rfl
theorem eX_isub : eX Q g pc ls st h (.isub) len = eSub g (pc + len) ls st h := Eq.trans rfl rfl
theorem eX_imul : eX Q g pc ls st h (.imul) len = eMul g (pc + len) ls st h := Eq.trans rfl rfl
theorem eX_idiv : eX Q g pc ls st h (.idiv) len = eDiv g (pc + len) ls st h := Eq.trans rfl rfl
theorem eX_irem : eX Q g pc ls st h (.irem) len = eRem g (pc + len) ls st h := Eq.trans rfl rfl
theorem eX_iand : eX Q g pc ls st h (.iand) len = eAnd g (pc + len) ls st h := Eq.trans rfl rfl
theorem eX_ishl : eX Q g pc ls st h (.ishl) len = eIshl g (pc + len) ls st h := Eq.trans rfl rfl
theorem eX_ishr : eX Q g pc ls st h (.ishr) len = eIshr g (pc + len) ls st h := Eq.trans rfl rfl
theorem eX_ixor : eX Q g pc ls st h (.ixor) len = eXor g (pc + len) ls st h := Eq.trans rfl rfl
theorem eX_ineg : eX Q g pc ls st h (.ineg) len = eNeg g (pc + len) ls st h := Eq.trans rfl rfl
theorem eX_dupx2 : eX Q g pc ls st h (.dup_x2) len = eDx2 g (pc + len) ls st h := Eq.trans rfl rfl
theorem eX_pop2 : eX Q g pc ls st h (.pop2) len = ePo2 g (pc + len) ls st h := Eq.trans rfl rfl
theorem eX_land : eX Q g pc ls st h (.land) len = eLand g (pc + len) ls st h := Eq.trans rfl rfl
theorem eX_lor : eX Q g pc ls st h (.lor) len = eLor g (pc + len) ls st h := Eq.trans rfl rfl
theorem eX_lshl : eX Q g pc ls st h (.lshl) len = eLshl g (pc + len) ls st h := Eq.trans rfl rfl
theorem eX_lushr : eX Q g pc ls st h (.lushr) len = eLushr g (pc + len) ls st h := Eq.trans rfl rfl
theorem eX_lcmp : eX Q g pc ls st h (.lcmp) len = eLcmp g (pc + len) ls st h := Eq.trans rfl rfl
theorem eX_i2l : eX Q g pc ls st h (.i2l) len = eI2l g (pc + len) ls st h := Eq.trans rfl rfl
theorem eX_l2i : eX Q g pc ls st h (.l2i) len = eL2i g (pc + len) ls st h := Eq.trans rfl rfl
theorem eX_dup : eX Q g pc ls st h (.dup) len = eDup g (pc + len) ls st h := Eq.trans rfl rfl
theorem eX_dup2 : eX Q g pc ls st h (.dup2) len = eDup2 g (pc + len) ls st h := Eq.trans rfl rfl
theorem eX_ifCond : ∀ c o, eX Q g pc ls st h (.ifCond c o) len = eIf g o.toNat (pc + len) ls st h c := fun _ _ => Eq.trans rfl rfl
theorem eX_ificmp : ∀ c o, eX Q g pc ls st h (.if_icmp c o) len = eIc g o.toNat (pc + len) ls st h c := fun _ _ => Eq.trans rfl rfl
theorem eX_goto : ∀ o, eX Q g pc ls st h (.goto o) len = g o.toNat ls st h := fun _ => Eq.trans rfl rfl
theorem eX_ifnonnull : ∀ o, eX Q g pc ls st h (.ifnonnull o) len = eNn g o.toNat (pc + len) ls st h := fun _ => Eq.trans rfl rfl
theorem eX_tableswitch : ∀ d lo hi os, eX Q g pc ls st h (.tableswitch d lo hi os) len = eTs g pc ls st h d lo hi os := fun _ _ _ _ => Eq.trans rfl rfl
theorem eX_invokeinterface : ∀ ci sl, eX Q g pc ls st h (.invokeinterface ci sl) len = eGf g (pc + len) ls st h ci sl := fun _ _ => Eq.trans rfl rfl
theorem eX_multianewarray : ∀ ci sl, eX Q g pc ls st h (.multianewarray ci sl) len = ePf g (pc + len) ls st h ci sl := fun _ _ => Eq.trans rfl rfl
theorem eX_getstatic : ∀ k, eX Q g pc ls st h (.getstatic k) len = g (pc + len) ls (vR k :: st) h := fun _ => Eq.trans rfl rfl
theorem eX_iaload : eX Q g pc ls st h (.iaload) len = eAI g (pc + len) ls st h := Eq.trans rfl rfl
theorem eX_laload : eX Q g pc ls st h (.laload) len = eAJ g (pc + len) ls st h := Eq.trans rfl rfl
theorem eX_baload : eX Q g pc ls st h (.baload) len = eAZ g (pc + len) ls st h := Eq.trans rfl rfl
theorem eX_aaload : eX Q g pc ls st h (.aaload) len = eAQ g (pc + len) ls st h := Eq.trans rfl rfl
theorem eX_iastore : eX Q g pc ls st h (.iastore) len = eXI g (pc + len) ls st h := Eq.trans rfl rfl
theorem eX_bastore : eX Q g pc ls st h (.bastore) len = eXZ g (pc + len) ls st h := Eq.trans rfl rfl
theorem eX_lastore : eX Q g pc ls st h (.lastore) len = eXJ g (pc + len) ls st h := Eq.trans rfl rfl
theorem eX_aastore : eX Q g pc ls st h (.aastore) len = eXQ g (pc + len) ls st h := Eq.trans rfl rfl
theorem eX_arraylength : eX Q g pc ls st h (.arraylength) len = eLn g (pc + len) ls st h := Eq.trans rfl rfl
theorem eX_new : ∀ ci, eX Q g pc ls st h (.new ci) len = g (pc + len) ls (vR h.length :: st) (h ++ [oO ci (zdef ci)]) := fun _ => Eq.trans rfl rfl
theorem eX_newarray : ∀ t, eX Q g pc ls st h (.newarray t) len = eNa g (pc + len) ls st h t := fun _ => Eq.trans rfl rfl
theorem eX_anewarray : ∀ n, eX Q g pc ls st h (.anewarray n) len = eNq g (pc + len) ls st h := fun _ => Eq.trans rfl rfl
theorem eX_invokevirtual : ∀ k, eX Q g pc ls st h (.invokevirtual k) len = eCv g (pc + len) ls st h k := fun _ => Eq.trans rfl rfl
theorem eX_invokestatic : ∀ k, eX Q g pc ls st h (.invokestatic k) len = eCs g (pc + len) ls st h k := fun _ => Eq.trans rfl rfl
theorem eX_invokespecial : ∀ k, eX Q g pc ls st h (.invokespecial k) len = eCi g (pc + len) ls st h k := fun _ => Eq.trans rfl rfl
theorem eX_pop : eX Q g pc ls st h (.pop) len = ePop g (pc + len) ls st h := Eq.trans rfl rfl
theorem eX_invokedynamic : ∀ b, eX Q g pc ls st h (.invokedynamic b) len = eJd g (pc + len) ls st h b := fun _ => Eq.trans rfl rfl
theorem eX_ireturn : eX Q g pc ls st h (.ireturn) len = eRI Q st h := Eq.trans rfl rfl
theorem eX_freturn : eX Q g pc ls st h (.freturn) len = eRZ Q st h := Eq.trans rfl rfl
theorem eX_lreturn : eX Q g pc ls st h (.lreturn) len = eRJ Q st h := Eq.trans rfl rfl
theorem eX_return : eX Q g pc ls st h (.return_) len = eRV Q st h := Eq.trans rfl rfl
end
theorem zfit_0 (z : Int) : zfit 0 (vI z) = true := rfl
theorem zfit_12 (z : Option Nat) : zfit 12 (vP z) = true := rfl
theorem zfit_1 (z : Int) : zfit 1 (vI z) = true ↔ (z = 0 ∨ z = 1) := by simp [zfit]
theorem zkd : (zkind 0 0 = 12 ∧ zkind 0 1 = 12 ∧ zkind 0 2 = 0) ∧ zkind 1 0 = 12 ∧ (zkind 2 0 = 12 ∧ zkind 2 1 = 0 ∧ zkind 2 2 = 0) ∧ (zkind 3 0 = 12 ∧ zkind 3 1 = 0) ∧ (zkind 4 0 = 0 ∧ zkind 4 1 = 0 ∧ zkind 4 2 = 0 ∧ zkind 4 3 = 1) ∧ (zkind 5 0 = 12 ∧ zkind 5 1 = 12 ∧ zkind 5 2 = 12 ∧ zkind 5 3 = 12) ∧ (zkind 6 0 = 12 ∧ zkind 6 1 = 12 ∧ zkind 6 2 = 12) ∧ (zkind 7 0 = 12 ∧ zkind 7 1 = 12 ∧ zkind 7 2 = 12 ∧ zkind 7 3 = 12 ∧ zkind 7 4 = 12 ∧ zkind 7 5 = 12 ∧ zkind 7 6 = 12 ∧ zkind 7 7 = 12 ∧ zkind 7 8 = 0) ∧ (zkind 8 0 = 12 ∧ zkind 8 1 = 0) ∧ (zkind 9 0 = 12 ∧ zkind 9 1 = 12 ∧ zkind 9 2 = 12 ∧ zkind 9 3 = 12 ∧ zkind 9 4 = 12 ∧ zkind 9 5 = 12 ∧ zkind 9 6 = 12 ∧ zkind 9 7 = 12) := by
  refine ⟨⟨rfl, rfl, rfl⟩, rfl, ⟨rfl, rfl, rfl⟩, ⟨rfl, rfl⟩, ⟨rfl, rfl, rfl, rfl⟩, ⟨rfl, rfl, rfl, rfl⟩, ⟨rfl, rfl, rfl⟩, ⟨rfl, rfl, rfl, rfl, rfl, rfl, rfl, rfl, rfl⟩, ⟨rfl, rfl⟩, ⟨rfl, rfl, rfl, rfl, rfl, rfl, rfl, rfl⟩⟩
theorem zct_0 : zct [] = 0 := Eq.trans rfl rfl
theorem zct_I (z : Int) (r : List zV) : zct (vI z :: r) = 1 + zct r := Eq.trans rfl rfl
theorem zct_P (z : Option Nat) (r : List zV) : zct (vP z :: r) = 1 + zct r := Eq.trans rfl rfl
theorem zct_J (z : Nat) (r : List zV) : zct (vJ z :: r) = 2 + zct r := Eq.trans rfl rfl
