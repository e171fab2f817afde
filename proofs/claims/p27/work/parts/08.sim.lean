/-! The small machine's steps are the machine's -/
def zsE (e : zE) : Nat := match e with
  | Sum.inl (n, _) => n
  | Sum.inr (_, fs) => fs.length
def zsz (h : zH) : Nat := (h.map zsE).sum
theorem zsz_app (h : zH) (e : zE) : zsz (h ++ [e]) = zsz h + zsE e := by simp [zsz]
theorem zsz_set : ∀ (h : zH) (a : Nat) (e e0 : zE), h[a]? = some e0 → zsE e = zsE e0 → zsz (h.set a e) = zsz h := by
  intro h
  induction h with
  | nil => intro a e e0 h1; simp at h1
  | cons x t ih =>
    intro a e e0 h1 h2
    cases a with
    | zero =>
      simp at h1
      subst h1
      simp [zsz, h2]
    | succ a =>
      simp at h1
      have := ih a e e0 h1 h2
      simp [zsz] at this ⊢
      exact this
def zFx (G : zG) (k : Nat) (p : Program) (R : Room) (s : State) (m : MethodId) (meth : Method) (c : Code) (args : Array Value) : Prop :=
  p.tables.exec = Jvm.exec ∧ c.code = zb k ∧ c.maxLocals = zmx k ∧ s.vm.findClass (zcn (zow k)) = some m.cls ∧ (∀ w ∈ zALL, w.before args s = true) ∧ (zis k = true → meth.name = "<init>") ∧ zfr k ≤ R.frames ∧ zlo k ≤ R.locals ∧ zX G s
def zret (k pc : Nat) (r : Option zV) : Prop := match r with
  | none => decode (zb k) pc = .ok (.return_, 1) ∧ zrt k = none
  | some (Sum.inl z) => decode (zb k) pc = .ok (.ireturn, 1) ∧ (zrt k = some .int ∨ (zrt k = some .boolean ∧ (z = 0 ∨ z = 1)))
  | some (Sum.inr (Sum.inl _)) => decode (zb k) pc = .ok (.lreturn, 1) ∧ zrt k = some .long
  | _ => False
def zEnd (G : zG) (l : Launch) (k : Nat) (p : Program) (e : Env) (R : Room) (s : State) (m : MethodId) (args : Array Value) (below : List Frame) (meth : Method) (c : Code) (tc ts : Nat) (x : Option zV × zH) (Q : State → Prop) : Prop :=
  ∀ (pc1 : Nat) (ls1 : Array Slot) (H1 : Heap) (locs1 : List Loc), zIn G s x.2 H1 locs1 → zret k pc1 x.1 → W p l e R s m args below meth c H1 locs1 tc ts Q (F0 m pc1 ls1 ((x.1.map (zrV G)).toList))
def zGoal (G : zG) (l : Launch) (k pc : Nat) (ls st : List zV) (h : zH) (x : Option zV × zH) : Prop :=
  ∀ (p : Program) (e : Env) (R : Room) (s : State) (m : MethodId) (args : Array Value) (below : List Frame) (meth : Method) (c : Code) (H : Heap) (locs : List Loc) (cells slots tc ts : Nat) (lsr : Array Slot) (Q : State → Prop),
    zFx G k p R s m meth c args → zIn G s h H locs → s.heap.size + cells = H.size → cells + x.2.length = tc + h.length → slots + zsz x.2 = ts + zsz h → tc ≤ R.cells → ts ≤ R.slots → lv_has lsr (zmx k) (zlv G ls) →
    zEnd G l k p e R s m args below meth c tc ts x Q →
    W p l e R s m args below meth c H locs cells slots Q (F0 m pc lsr (st.map (zrV G)))
theorem zlow {G : zG} {h : zH} {H : Heap} (hP : va_P (gD G) vwCl (zww G h) H) (h4 : 4 ≤ h.length) : gsz G + (h.length - 3) ≤ H.size := by
  have hl : h.length - 4 + 3 < h.length := by omega
  have hg : (zww G h)[h.length - 4]? = some (gsz G + (h.length - 4), zre G h[h.length - 4 + 3]) := by
    rw [zww_get, List.getElem?_eq_getElem hl]
    rfl
  have := (hP _ _ hg).lt
  simp only at this
  omega
section
variable {p : Program} {l : Launch} {e : Env} {R : Room} {s : State} {m : MethodId} {args : Array Value} {below : List Frame} {meth : Method} {c : Code} {Q : State → Prop} {g : JFrame}
theorem zSize {H1 : Heap} {locs1 : List Loc} {cells slots N : Nat} (hc : s.heap.size + cells = N) (hlow : N ≤ H1.size) (kk : H1.size = N → W p l e R s m args below meth c H1 locs1 cells slots Q g) : W p l e R s m args below meth c H1 locs1 cells slots Q g := by
  intro T hT X
  have h1 := X.heapSize
  rw [hT] at h1
  exact kk (by omega) T hT X
theorem zNew {G : zG} {h : zH} {e0 : va_E} {q : Nat} {H1 : Heap} {locs1 : List Loc} {cells slots N : Nat} (hc : s.heap.size + cells = N + 1) (hN : N = gsz G + (h.length - 3)) (hP : va_P (gD G) vwCl (zww G h ++ [(q, e0)]) H1) (hD : va_D (gA G) (zww G h ++ [(q, e0)])) (kk : q = N → H1.size = N + 1 → W p l e R s m args below meth c H1 locs1 cells slots Q g) : W p l e R s m args below meth c H1 locs1 cells slots Q g := by
  intro T hT X
  have h1 := X.heapSize
  rw [hT] at h1
  have hl : (zww G h).length = h.length - 3 := by simp [zww]
  have hq : (zww G h ++ [(q, e0)])[h.length - 3]? = some (q, e0) := by rw [← hl]; simp
  have g1 : q < H1.size := (hP _ _ hq).lt
  have g2 : gsz G ≤ q := hD.2 _ _ hq
  have g3 : ¬ q < N := by
    intro hlt
    have hi : q - gsz G < (zww G h).length := by omega
    have hx : (zww G h ++ [(q, e0)])[q - gsz G]? = some (zww G h)[q - gsz G] := by
      rw [List.getElem?_append_left hi, List.getElem?_eq_getElem hi]
    have hy : ((zww G h)[q - gsz G]).1 = q := by
      have h2 := zww_get G h (q - gsz G)
      rw [List.getElem?_eq_getElem hi] at h2
      obtain ⟨x, -, hx⟩ := Option.map_eq_some_iff.mp h2.symm
      rw [← hx]
      show gsz G + (q - gsz G) = q
      omega
    have := hD.1 _ _ _ _ hx hq hy
    omega
  exact kk (by omega) (by omega) T hT X
end
theorem zIn_set {G : zG} {s : State} {h : zH} {H H1 : Heap} {locs locs1 : List Loc} {a : Nat} {e0 : zE} {e1 : zE} {w1 : va_E} (I : zIn G s h H locs) (ha : h[a]? = some e0) (h3 : 3 ≤ a) (hw : w1 = zre G e1) (hP : va_P (gD G) vwCl ((zww G h).set (a - 3) (gsz G + (a - 3), w1)) H1) (hS : va_S (gA G) s.heap H1 locs1) (hz : H1.size = H.size) : zIn G s (h.set a e1) H1 locs1 := by
  refine ⟨by rw [zww_set e1 h3, ← hw]; exact hP, by rw [hz, I.2.1, List.length_set], zro_set I.2.2.1 h3, hS⟩
theorem zlow_set {G : zG} {s : State} {h : zH} {H H1 : Heap} {locs : List Loc} {a : Nat} {e0 e1 : zE} {w1 : va_E} (I : zIn G s h H locs) (ha : h[a]? = some e0) (h3 : 3 ≤ a) (hw : w1 = zre G e1) (hP : va_P (gD G) vwCl ((zww G h).set (a - 3) (gsz G + (a - 3), w1)) H1) : H.size ≤ H1.size := by
  have hl := (List.getElem?_eq_some_iff.mp ha).1
  rw [hw, ← zww_set e1 h3] at hP
  have := zlow hP (by rw [List.length_set]; omega)
  rw [List.length_set] at this
  rw [I.2.1]
  exact this
theorem zFx_w {G : zG} {k : Nat} {p : Program} {R : Room} {s : State} {m : MethodId} {meth : Method} {c : Code} {args : Array Value} (F : zFx G k p R s m meth c args) {w : Cond} (h : zW w) : w.before args s = true := F.2.2.2.2.1 w (zW_iff.mpr h)
section
variable {G : zG} {l : Launch} {k pc : Nat} {ls st : List zV} {h : zH} {x : Option zV × zH} {go : Nat → List zV → List zV → zH → Option (Option zV × zH)} (hgo : ∀ pc ls st h, go pc ls st h = some x → zGoal G l k pc ls st h x)
theorem zs_iconst {z : Int} (hd : decode (zb k) pc = .ok (.iconst z, 1)) (hgo : ∀ pc ls st h, go pc ls st h = some x → zGoal G l k pc ls st h x) (he : go (pc + 1) ls (vI z :: st) h = some x) : zGoal G l k pc ls st h x := by
  intro p e R s m args below meth c H locs cells slots tc ts lsr Q F I hc e1 e2 b1 b2 hl K
  exact lv_iconst F.1 F.2.1 hd rfl (hgo _ _ _ _ he p e R s m args below meth c H locs cells slots tc ts _ Q F I hc e1 e2 b1 b2 hl K)
theorem zs_bipush {z : Int} (hz : -128 ≤ z ∧ z < 128) (hd : decode (zb k) pc = .ok (.bipush z, 2)) (hgo : ∀ pc ls st h, go pc ls st h = some x → zGoal G l k pc ls st h x) (he : go (pc + 2) ls (vI z :: st) h = some x) : zGoal G l k pc ls st h x := by
  intro p e R s m args below meth c H locs cells slots tc ts lsr Q F I hc e1 e2 b1 b2 hl K
  refine lv_bipush F.1 F.2.1 hd (v := Int32.ofInt z) ?_ (hgo _ _ _ _ he p e R s m args below meth c H locs cells slots tc ts _ Q F I hc e1 e2 b1 b2 hl K)
  have e0 : (Int8.ofInt z).toInt = z := Int8.toInt_ofInt_of_le (by omega) (by omega)
  apply Int32.toInt_inj.mp
  rw [Int8.toInt_toInt32, e0, z_toInt ⟨by omega, by omega⟩]
theorem zs_sipush {z : Int} (hz : -32768 ≤ z ∧ z < 32768) (hd : decode (zb k) pc = .ok (.sipush z, 3)) (hgo : ∀ pc ls st h, go pc ls st h = some x → zGoal G l k pc ls st h x) (he : go (pc + 3) ls (vI z :: st) h = some x) : zGoal G l k pc ls st h x := by
  intro p e R s m args below meth c H locs cells slots tc ts lsr Q F I hc e1 e2 b1 b2 hl K
  refine lv_sipush F.1 F.2.1 hd (v := Int32.ofInt z) ?_ (hgo _ _ _ _ he p e R s m args below meth c H locs cells slots tc ts _ Q F I hc e1 e2 b1 b2 hl K)
  have e0 : (Int16.ofInt z).toInt = z := Int16.toInt_ofInt_of_le (by omega) (by omega)
  apply Int32.toInt_inj.mp
  rw [Int16.toInt_toInt32, e0, z_toInt ⟨by omega, by omega⟩]
theorem zs_lconst {n : Fin 2} (hd : decode (zb k) pc = .ok (.lconst n, 1)) (hgo : ∀ pc ls st h, go pc ls st h = some x → zGoal G l k pc ls st h x) (he : go (pc + 1) ls (vJ n.val :: st) h = some x) : zGoal G l k pc ls st h x := by
  intro p e R s m args below meth c H locs cells slots tc ts lsr Q F I hc e1 e2 b1 b2 hl K
  exact lv_lconst F.1 F.2.1 hd rfl (hgo _ _ _ _ he p e R s m args below meth c H locs cells slots tc ts _ Q F I hc e1 e2 b1 b2 hl K)
theorem zs_ldc2 {idx n : Nat} (hq : zlk zll (zow k) idx = some n) (hd : decode (zb k) pc = .ok (.ldc2_w idx, 3)) (hgo : ∀ pc ls st h, go pc ls st h = some x → zGoal G l k pc ls st h x) (he : go (pc + 3) ls (vJ n :: st) h = some x) : zGoal G l k pc ls st h x := by
  intro p e R s m args below meth c H locs cells slots tc ts lsr Q F I hc e1 e2 b1 b2 hl K
  exact lv_ldc2 F.1 F.2.1 F.2.2.2.1 (zFx_w F (zll_ok _ (zlk_mem hq))) hd (hgo _ _ _ _ he p e R s m args below meth c H locs cells slots tc ts _ Q F I hc e1 e2 b1 b2 hl K)
theorem zs_iload_n {n : Fin 4} (hd : decode (zb k) pc = .ok (.iload_n n, 1)) (hgo : ∀ pc ls st h, go pc ls st h = some x → zGoal G l k pc ls st h x) (he : (zkI none ls[n.val]? fun z => go (pc + 1) ls (vI z :: st) h) = some x) : zGoal G l k pc ls st h x := by
  obtain ⟨z, hz, he1⟩ := zkI_inv he
  intro p e R s m args below meth c H locs cells slots tc ts lsr Q F I hc e1 e2 b1 b2 hl K
  exact lv_iload_n F.1 F.2.1 hd rfl (zlv_at hl hz (by intro q; cases q)) (hgo _ _ _ _ he1 p e R s m args below meth c H locs cells slots tc ts _ Q F I hc e1 e2 b1 b2 hl K)
theorem zs_iload {n : Nat} (hd : decode (zb k) pc = .ok (.iload n, 2)) (hgo : ∀ pc ls st h, go pc ls st h = some x → zGoal G l k pc ls st h x) (he : (zkI none ls[n]? fun z => go (pc + 2) ls (vI z :: st) h) = some x) : zGoal G l k pc ls st h x := by
  obtain ⟨z, hz, he1⟩ := zkI_inv he
  intro p e R s m args below meth c H locs cells slots tc ts lsr Q F I hc e1 e2 b1 b2 hl K
  exact lv_iload F.1 F.2.1 hd (zlv_at hl hz (by intro q; cases q)) (hgo _ _ _ _ he1 p e R s m args below meth c H locs cells slots tc ts _ Q F I hc e1 e2 b1 b2 hl K)
theorem zs_lload_n {n : Fin 4} (hd : decode (zb k) pc = .ok (.lload_n n, 1)) (hgo : ∀ pc ls st h, go pc ls st h = some x → zGoal G l k pc ls st h x) (he : (zkJ none ls[n.val]? fun z => go (pc + 1) ls (vJ z :: st) h) = some x) : zGoal G l k pc ls st h x := by
  obtain ⟨z, hz, he1⟩ := zkJ_inv he
  intro p e R s m args below meth c H locs cells slots tc ts lsr Q F I hc e1 e2 b1 b2 hl K
  exact lv_lload_n F.1 F.2.1 hd rfl (zlv_at hl hz (by intro q; cases q)) (hgo _ _ _ _ he1 p e R s m args below meth c H locs cells slots tc ts _ Q F I hc e1 e2 b1 b2 hl K)
theorem zs_lload {n : Nat} (hd : decode (zb k) pc = .ok (.lload n, 2)) (hgo : ∀ pc ls st h, go pc ls st h = some x → zGoal G l k pc ls st h x) (he : (zkJ none ls[n]? fun z => go (pc + 2) ls (vJ z :: st) h) = some x) : zGoal G l k pc ls st h x := by
  obtain ⟨z, hz, he1⟩ := zkJ_inv he
  intro p e R s m args below meth c H locs cells slots tc ts lsr Q F I hc e1 e2 b1 b2 hl K
  exact lv_lload F.1 F.2.1 hd (zlv_at hl hz (by intro q; cases q)) (hgo _ _ _ _ he1 p e R s m args below meth c H locs cells slots tc ts _ Q F I hc e1 e2 b1 b2 hl K)
theorem zs_aload_n {n : Fin 4} (hd : decode (zb k) pc = .ok (.aload_n n, 1)) (hgo : ∀ pc ls st h, go pc ls st h = some x → zGoal G l k pc ls st h x) (he : (zkP none ls[n.val]? fun z => go (pc + 1) ls (vP z :: st) h) = some x) : zGoal G l k pc ls st h x := by
  obtain ⟨z, hz, he1⟩ := zkP_inv he
  intro p e R s m args below meth c H locs cells slots tc ts lsr Q F I hc e1 e2 b1 b2 hl K
  have hs := zlv_at hl hz (by intro q; cases q)
  cases z with
  | none => exact lv_aload_nN F.1 F.2.1 hd rfl hs (hgo _ _ _ _ he1 p e R s m args below meth c H locs cells slots tc ts _ Q F I hc e1 e2 b1 b2 hl K)
  | some a => exact lv_aload_n F.1 F.2.1 hd rfl hs (hgo _ _ _ _ he1 p e R s m args below meth c H locs cells slots tc ts _ Q F I hc e1 e2 b1 b2 hl K)
theorem zs_aload {n : Nat} (hd : decode (zb k) pc = .ok (.aload n, 2)) (hgo : ∀ pc ls st h, go pc ls st h = some x → zGoal G l k pc ls st h x) (he : (zkP none ls[n]? fun z => go (pc + 2) ls (vP z :: st) h) = some x) : zGoal G l k pc ls st h x := by
  obtain ⟨z, hz, he1⟩ := zkP_inv he
  intro p e R s m args below meth c H locs cells slots tc ts lsr Q F I hc e1 e2 b1 b2 hl K
  have hs := zlv_at hl hz (by intro q; cases q)
  cases z with
  | none => exact lv_aloadN F.1 F.2.1 hd hs (hgo _ _ _ _ he1 p e R s m args below meth c H locs cells slots tc ts _ Q F I hc e1 e2 b1 b2 hl K)
  | some a => exact lv_aload F.1 F.2.1 hd hs (hgo _ _ _ _ he1 p e R s m args below meth c H locs cells slots tc ts _ Q F I hc e1 e2 b1 b2 hl K)
theorem zs_istore_n {n : Fin 4} (hn : n.val < zmx k) (hd : decode (zb k) pc = .ok (.istore_n n, 1)) (hgo : ∀ pc ls st h, go pc ls st h = some x → zGoal G l k pc ls st h x) (he : (zpI none st fun z r => go (pc + 1) (zset1 ls n.val (vI z)) r h) = some x) : zGoal G l k pc ls st h x := by
  obtain ⟨z, r, rfl, he1⟩ := zpI_inv he
  intro p e R s m args below meth c H locs cells slots tc ts lsr Q F I hc e1 e2 b1 b2 hl K
  refine lv_istore_n F.1 F.2.1 hd rfl hl hn rfl (fun lsr' hl' => ?_)
  have hl2 := lv_mono hl' (zlv_set1 (G := G) (ls := ls) (n := n.val) (v := vI z) (by intro q; cases q))
  exact (hgo _ _ _ _ he1 p e R s m args below meth c H locs cells slots tc ts _ Q F I hc e1 e2 b1 b2 hl2 K)
theorem zs_lstore_n {n : Fin 4} (hn : n.val + 1 < zmx k) (hd : decode (zb k) pc = .ok (.lstore_n n, 1)) (hgo : ∀ pc ls st h, go pc ls st h = some x → zGoal G l k pc ls st h x) (he : (zpJ none st fun z r => go (pc + 1) (zset2 ls n.val (vJ z)) r h) = some x) : zGoal G l k pc ls st h x := by
  obtain ⟨z, r, rfl, he1⟩ := zpJ_inv he
  intro p e R s m args below meth c H locs cells slots tc ts lsr Q F I hc e1 e2 b1 b2 hl K
  refine lv_lstore_n F.1 F.2.1 hd rfl hl hn rfl (fun lsr' hl' => ?_)
  have hl2 := lv_mono hl' (zlv_set2 (G := G) (ls := ls) (n := n.val) (v := vJ z) (by intro q; cases q))
  exact (hgo _ _ _ _ he1 p e R s m args below meth c H locs cells slots tc ts _ Q F I hc e1 e2 b1 b2 hl2 K)
theorem zs_astore_n {n : Fin 4} (hn : n.val < zmx k) (hd : decode (zb k) pc = .ok (.astore_n n, 1)) (hgo : ∀ pc ls st h, go pc ls st h = some x → zGoal G l k pc ls st h x) (he : (zpP none st fun z r => go (pc + 1) (zset1 ls n.val (vP z)) r h) = some x) : zGoal G l k pc ls st h x := by
  obtain ⟨z, r, rfl, he1⟩ := zpP_inv he
  intro p e R s m args below meth c H locs cells slots tc ts lsr Q F I hc e1 e2 b1 b2 hl K
  cases z with
  | none =>
    refine lv_astore_nN F.1 F.2.1 hd rfl hl hn rfl (fun lsr' hl' => ?_)
    have hl2 := lv_mono hl' (zlv_set1 (G := G) (ls := ls) (n := n.val) (v := vN) (by intro q; cases q))
    exact (hgo _ _ _ _ he1 p e R s m args below meth c H locs cells slots tc ts _ Q F I hc e1 e2 b1 b2 hl2 K)
  | some a =>
    refine lv_astore_n F.1 F.2.1 hd rfl hl hn rfl (fun lsr' hl' => ?_)
    have hl2 := lv_mono hl' (zlv_set1 (G := G) (ls := ls) (n := n.val) (v := vR a) (by intro q; cases q))
    exact (hgo _ _ _ _ he1 p e R s m args below meth c H locs cells slots tc ts _ Q F I hc e1 e2 b1 b2 hl2 K)
theorem zs_istore {n : Nat} (hn : n < zmx k) (hd : decode (zb k) pc = .ok (.istore n, 2)) (hgo : ∀ pc ls st h, go pc ls st h = some x → zGoal G l k pc ls st h x) (he : (zpI none st fun z r => go (pc + 2) (zset1 ls n (vI z)) r h) = some x) : zGoal G l k pc ls st h x := by
  obtain ⟨z, r, rfl, he1⟩ := zpI_inv he
  intro p e R s m args below meth c H locs cells slots tc ts lsr Q F I hc e1 e2 b1 b2 hl K
  refine lv_istore F.1 F.2.1 hd hl hn rfl (fun lsr' hl' => ?_)
  have hl2 := lv_mono hl' (zlv_set1 (G := G) (ls := ls) (n := n) (v := vI z) (by intro q; cases q))
  exact (hgo _ _ _ _ he1 p e R s m args below meth c H locs cells slots tc ts _ Q F I hc e1 e2 b1 b2 hl2 K)
theorem zs_lstore {n : Nat} (hn : n + 1 < zmx k) (hd : decode (zb k) pc = .ok (.lstore n, 2)) (hgo : ∀ pc ls st h, go pc ls st h = some x → zGoal G l k pc ls st h x) (he : (zpJ none st fun z r => go (pc + 2) (zset2 ls n (vJ z)) r h) = some x) : zGoal G l k pc ls st h x := by
  obtain ⟨z, r, rfl, he1⟩ := zpJ_inv he
  intro p e R s m args below meth c H locs cells slots tc ts lsr Q F I hc e1 e2 b1 b2 hl K
  refine lv_lstore F.1 F.2.1 hd hl hn rfl (fun lsr' hl' => ?_)
  have hl2 := lv_mono hl' (zlv_set2 (G := G) (ls := ls) (n := n) (v := vJ z) (by intro q; cases q))
  exact (hgo _ _ _ _ he1 p e R s m args below meth c H locs cells slots tc ts _ Q F I hc e1 e2 b1 b2 hl2 K)
theorem zs_astore {n : Nat} (hn : n < zmx k) (hd : decode (zb k) pc = .ok (.astore n, 2)) (hgo : ∀ pc ls st h, go pc ls st h = some x → zGoal G l k pc ls st h x) (he : (zpP none st fun z r => go (pc + 2) (zset1 ls n (vP z)) r h) = some x) : zGoal G l k pc ls st h x := by
  obtain ⟨z, r, rfl, he1⟩ := zpP_inv he
  intro p e R s m args below meth c H locs cells slots tc ts lsr Q F I hc e1 e2 b1 b2 hl K
  cases z with
  | none =>
    refine lv_astoreN F.1 F.2.1 hd hl hn rfl (fun lsr' hl' => ?_)
    have hl2 := lv_mono hl' (zlv_set1 (G := G) (ls := ls) (n := n) (v := vN) (by intro q; cases q))
    exact (hgo _ _ _ _ he1 p e R s m args below meth c H locs cells slots tc ts _ Q F I hc e1 e2 b1 b2 hl2 K)
  | some a =>
    refine lv_astore F.1 F.2.1 hd hl hn rfl (fun lsr' hl' => ?_)
    have hl2 := lv_mono hl' (zlv_set1 (G := G) (ls := ls) (n := n) (v := vR a) (by intro q; cases q))
    exact (hgo _ _ _ _ he1 p e R s m args below meth c H locs cells slots tc ts _ Q F I hc e1 e2 b1 b2 hl2 K)
theorem zs_iinc {n : Nat} {d : Int} (hn : n < zmx k) (hd : decode (zb k) pc = .ok (.iinc n d, 3)) (hgo : ∀ pc ls st h, go pc ls st h = some x → zGoal G l k pc ls st h x) (he : (zkI none ls[n]? fun z => go (pc + 3) (zset1 ls n (vI (z + d))) st h) = some x) : zGoal G l k pc ls st h x := by
  obtain ⟨z, hz, he1⟩ := zkI_inv he
  intro p e R s m args below meth c H locs cells slots tc ts lsr Q F I hc e1 e2 b1 b2 hl K
  obtain ⟨j, hj⟩ := List.getElem?_of_mem (zlv_mem (G := G) (q := (n, .int (Int32.ofInt z))) |>.mpr ⟨vI z, hz, (by intro q; cases q), rfl⟩)
  refine lv_iinc (v := Int32.ofInt (z + d)) F.1 F.2.1 hd hl hj (Int32.ofInt_add z d).symm hn rfl (fun lsr' hl' => ?_)
  have hl2 := lv_mono hl' (zlv_set1 (G := G) (ls := ls) (n := n) (v := vI (z + d)) (by intro q; cases q))
  exact (hgo _ _ _ _ he1 p e R s m args below meth c H locs cells slots tc ts _ Q F I hc e1 e2 b1 b2 hl2 K)
theorem zs_iadd (hd : decode (zb k) pc = .ok (.iadd, 1)) (hgo : ∀ pc ls st h, go pc ls st h = some x → zGoal G l k pc ls st h x) (he : (zpI none st fun y r => zpI none r fun x0 r => go (pc + 1) ls (vI (x0 + y) :: r) h) = some x) : zGoal G l k pc ls st h x := by
  obtain ⟨y, r, rfl, he1⟩ := zpI_inv he
  obtain ⟨x0, r, rfl, he2⟩ := zpI_inv he1
  intro p e R s m args below meth c H locs cells slots tc ts lsr Q F I hc e1 e2 b1 b2 hl K
  refine lv_iadd F.1 F.2.1 hd ?_
  rw [← Int32.ofInt_add]
  exact (hgo _ _ _ _ he2 p e R s m args below meth c H locs cells slots tc ts _ Q F I hc e1 e2 b1 b2 hl K)
theorem zs_isub (hd : decode (zb k) pc = .ok (.isub, 1)) (hgo : ∀ pc ls st h, go pc ls st h = some x → zGoal G l k pc ls st h x) (he : (zpI none st fun y r => zpI none r fun x0 r => go (pc + 1) ls (vI (x0 - y) :: r) h) = some x) : zGoal G l k pc ls st h x := by
  obtain ⟨y, r, rfl, he1⟩ := zpI_inv he
  obtain ⟨x0, r, rfl, he2⟩ := zpI_inv he1
  intro p e R s m args below meth c H locs cells slots tc ts lsr Q F I hc e1 e2 b1 b2 hl K
  refine lv_isub F.1 F.2.1 hd ?_
  rw [← Int32.ofInt_sub]
  exact (hgo _ _ _ _ he2 p e R s m args below meth c H locs cells slots tc ts _ Q F I hc e1 e2 b1 b2 hl K)
theorem zs_imul (hd : decode (zb k) pc = .ok (.imul, 1)) (hgo : ∀ pc ls st h, go pc ls st h = some x → zGoal G l k pc ls st h x) (he : (zpI none st fun y r => zpI none r fun x0 r => go (pc + 1) ls (vI (x0 * y) :: r) h) = some x) : zGoal G l k pc ls st h x := by
  obtain ⟨y, r, rfl, he1⟩ := zpI_inv he
  obtain ⟨x0, r, rfl, he2⟩ := zpI_inv he1
  intro p e R s m args below meth c H locs cells slots tc ts lsr Q F I hc e1 e2 b1 b2 hl K
  refine lv_imul F.1 F.2.1 hd ?_
  rw [← Int32.ofInt_mul]
  exact (hgo _ _ _ _ he2 p e R s m args below meth c H locs cells slots tc ts _ Q F I hc e1 e2 b1 b2 hl K)
theorem zs_idiv (hd : decode (zb k) pc = .ok (.idiv, 1)) (hgo : ∀ pc ls st h, go pc ls st h = some x → zGoal G l k pc ls st h x) (he : (zpI none st fun y r => zpI none r fun x0 r => if (0 ≤ x0 ∧ x0 < 2147483648) ∧ 0 < y ∧ y < 2147483648 then go (pc + 1) ls (vI (x0 / y) :: r) h else none) = some x) : zGoal G l k pc ls st h x := by
  obtain ⟨y, r, rfl, he1⟩ := zpI_inv he
  obtain ⟨x0, r, rfl, he2⟩ := zpI_inv he1
  obtain ⟨⟨hx, hy⟩, he3⟩ := zif_inv he2
  intro p e R s m args below meth c H locs cells slots tc ts lsr Q F I hc e1 e2 b1 b2 hl K
  refine lv_idiv F.1 F.2.1 hd (z_ne0 hy) ?_
  rw [z_div hx hy]
  exact (hgo _ _ _ _ he3 p e R s m args below meth c H locs cells slots tc ts _ Q F I hc e1 e2 b1 b2 hl K)
theorem zs_irem (hd : decode (zb k) pc = .ok (.irem, 1)) (hgo : ∀ pc ls st h, go pc ls st h = some x → zGoal G l k pc ls st h x) (he : (zpI none st fun y r => zpI none r fun x0 r => if zr x0 ∧ 0 < y ∧ y < 2147483648 then go (pc + 1) ls (vI (x0.tmod y) :: r) h else none) = some x) : zGoal G l k pc ls st h x := by
  obtain ⟨y, r, rfl, he1⟩ := zpI_inv he
  obtain ⟨x0, r, rfl, he2⟩ := zpI_inv he1
  obtain ⟨⟨hx, hy⟩, he3⟩ := zif_inv he2
  intro p e R s m args below meth c H locs cells slots tc ts lsr Q F I hc e1 e2 b1 b2 hl K
  refine lv_irem F.1 F.2.1 hd (z_ne0 hy) ?_
  rw [z_rem hx hy]
  exact (hgo _ _ _ _ he3 p e R s m args below meth c H locs cells slots tc ts _ Q F I hc e1 e2 b1 b2 hl K)
theorem zs_iand (hd : decode (zb k) pc = .ok (.iand, 1)) (hgo : ∀ pc ls st h, go pc ls st h = some x → zGoal G l k pc ls st h x) (he : (zpI none st fun y r => zpI none r fun x0 r => go (pc + 1) ls (vI (zan x0 y) :: r) h) = some x) : zGoal G l k pc ls st h x := by
  obtain ⟨y, r, rfl, he1⟩ := zpI_inv he
  obtain ⟨x0, r, rfl, he2⟩ := zpI_inv he1
  intro p e R s m args below meth c H locs cells slots tc ts lsr Q F I hc e1 e2 b1 b2 hl K
  refine lv_iand F.1 F.2.1 hd ?_
  rw [z_and]
  exact (hgo _ _ _ _ he2 p e R s m args below meth c H locs cells slots tc ts _ Q F I hc e1 e2 b1 b2 hl K)
theorem zs_ixor (hd : decode (zb k) pc = .ok (.ixor, 1)) (hgo : ∀ pc ls st h, go pc ls st h = some x → zGoal G l k pc ls st h x) (he : (zpI none st fun y r => zpI none r fun x0 r => go (pc + 1) ls (vI (zxo x0 y) :: r) h) = some x) : zGoal G l k pc ls st h x := by
  obtain ⟨y, r, rfl, he1⟩ := zpI_inv he
  obtain ⟨x0, r, rfl, he2⟩ := zpI_inv he1
  intro p e R s m args below meth c H locs cells slots tc ts lsr Q F I hc e1 e2 b1 b2 hl K
  refine lv_ixor F.1 F.2.1 hd ?_
  rw [z_xor]
  exact (hgo _ _ _ _ he2 p e R s m args below meth c H locs cells slots tc ts _ Q F I hc e1 e2 b1 b2 hl K)
theorem zs_ineg (hd : decode (zb k) pc = .ok (.ineg, 1)) (hgo : ∀ pc ls st h, go pc ls st h = some x → zGoal G l k pc ls st h x) (he : (zpI none st fun x0 r => go (pc + 1) ls (vI (-x0) :: r) h) = some x) : zGoal G l k pc ls st h x := by
  obtain ⟨x0, r, rfl, he1⟩ := zpI_inv he
  intro p e R s m args below meth c H locs cells slots tc ts lsr Q F I hc e1 e2 b1 b2 hl K
  refine lv_ineg F.1 F.2.1 hd ?_
  rw [z_neg]
  exact (hgo _ _ _ _ he1 p e R s m args below meth c H locs cells slots tc ts _ Q F I hc e1 e2 b1 b2 hl K)
theorem zs_ishl (hd : decode (zb k) pc = .ok (.ishl, 1)) (hgo : ∀ pc ls st h, go pc ls st h = some x → zGoal G l k pc ls st h x) (he : (zpI none st fun y r => zpI none r fun x0 r => if 0 ≤ y ∧ y < 32 then go (pc + 1) ls (vI (x0 * 2 ^ y.toNat) :: r) h else none) = some x) : zGoal G l k pc ls st h x := by
  obtain ⟨y, r, rfl, he1⟩ := zpI_inv he
  obtain ⟨x0, r, rfl, he2⟩ := zpI_inv he1
  obtain ⟨hy, he3⟩ := zif_inv he2
  intro p e R s m args below meth c H locs cells slots tc ts lsr Q F I hc e1 e2 b1 b2 hl K
  refine lv_ishl F.1 F.2.1 hd ?_
  rw [z_shl hy]
  exact (hgo _ _ _ _ he3 p e R s m args below meth c H locs cells slots tc ts _ Q F I hc e1 e2 b1 b2 hl K)
theorem zs_ishr (hd : decode (zb k) pc = .ok (.ishr, 1)) (hgo : ∀ pc ls st h, go pc ls st h = some x → zGoal G l k pc ls st h x) (he : (zpI none st fun y r => zpI none r fun x0 r => if 0 ≤ y ∧ y < 32 then go (pc + 1) ls (vI (zwr x0 / 2 ^ y.toNat) :: r) h else none) = some x) : zGoal G l k pc ls st h x := by
  obtain ⟨y, r, rfl, he1⟩ := zpI_inv he
  obtain ⟨x0, r, rfl, he2⟩ := zpI_inv he1
  obtain ⟨hy, he3⟩ := zif_inv he2
  intro p e R s m args below meth c H locs cells slots tc ts lsr Q F I hc e1 e2 b1 b2 hl K
  refine lv_ishr F.1 F.2.1 hd ?_
  rw [z_shr hy]
  exact (hgo _ _ _ _ he3 p e R s m args below meth c H locs cells slots tc ts _ Q F I hc e1 e2 b1 b2 hl K)
theorem zs_land (hd : decode (zb k) pc = .ok (.land, 1)) (hgo : ∀ pc ls st h, go pc ls st h = some x → zGoal G l k pc ls st h x) (he : (zpJ none st fun y r => zpJ none r fun x0 r => go (pc + 1) ls (vJ (x0 &&& y) :: r) h) = some x) : zGoal G l k pc ls st h x := by
  obtain ⟨y, r, rfl, he1⟩ := zpJ_inv he
  obtain ⟨x0, r, rfl, he2⟩ := zpJ_inv he1
  intro p e R s m args below meth c H locs cells slots tc ts lsr Q F I hc e1 e2 b1 b2 hl K
  refine lv_land F.1 F.2.1 hd ?_
  rw [z_land]
  exact (hgo _ _ _ _ he2 p e R s m args below meth c H locs cells slots tc ts _ Q F I hc e1 e2 b1 b2 hl K)
theorem zs_lor (hd : decode (zb k) pc = .ok (.lor, 1)) (hgo : ∀ pc ls st h, go pc ls st h = some x → zGoal G l k pc ls st h x) (he : (zpJ none st fun y r => zpJ none r fun x0 r => go (pc + 1) ls (vJ (x0 ||| y) :: r) h) = some x) : zGoal G l k pc ls st h x := by
  obtain ⟨y, r, rfl, he1⟩ := zpJ_inv he
  obtain ⟨x0, r, rfl, he2⟩ := zpJ_inv he1
  intro p e R s m args below meth c H locs cells slots tc ts lsr Q F I hc e1 e2 b1 b2 hl K
  refine lv_lor F.1 F.2.1 hd ?_
  rw [z_lor]
  exact (hgo _ _ _ _ he2 p e R s m args below meth c H locs cells slots tc ts _ Q F I hc e1 e2 b1 b2 hl K)
theorem zs_lshl (hd : decode (zb k) pc = .ok (.lshl, 1)) (hgo : ∀ pc ls st h, go pc ls st h = some x → zGoal G l k pc ls st h x) (he : (zpI none st fun y r => zpJ none r fun x0 r => if 0 ≤ y ∧ y < 64 then go (pc + 1) ls (vJ (x0 * 2 ^ y.toNat % 18446744073709551616) :: r) h else none) = some x) : zGoal G l k pc ls st h x := by
  obtain ⟨y, r, rfl, he1⟩ := zpI_inv he
  obtain ⟨x0, r, rfl, he2⟩ := zpJ_inv he1
  obtain ⟨hy, he3⟩ := zif_inv he2
  intro p e R s m args below meth c H locs cells slots tc ts lsr Q F I hc e1 e2 b1 b2 hl K
  exact lv_lshl F.1 F.2.1 hd (z_lshl x0 hy) (hgo _ _ _ _ he3 p e R s m args below meth c H locs cells slots tc ts _ Q F I hc e1 e2 b1 b2 hl K)
theorem zs_lushr (hd : decode (zb k) pc = .ok (.lushr, 1)) (hgo : ∀ pc ls st h, go pc ls st h = some x → zGoal G l k pc ls st h x) (he : (zpI none st fun y r => zpJ none r fun x0 r => if (0 ≤ y ∧ y < 64) ∧ x0 < 18446744073709551616 then go (pc + 1) ls (vJ (x0 / 2 ^ y.toNat) :: r) h else none) = some x) : zGoal G l k pc ls st h x := by
  obtain ⟨y, r, rfl, he1⟩ := zpI_inv he
  obtain ⟨x0, r, rfl, he2⟩ := zpJ_inv he1
  obtain ⟨⟨hy, hx⟩, he3⟩ := zif_inv he2
  intro p e R s m args below meth c H locs cells slots tc ts lsr Q F I hc e1 e2 b1 b2 hl K
  exact lv_lushr F.1 F.2.1 hd (z_lushr hy hx) (hgo _ _ _ _ he3 p e R s m args below meth c H locs cells slots tc ts _ Q F I hc e1 e2 b1 b2 hl K)
theorem zs_lcmp (hd : decode (zb k) pc = .ok (.lcmp, 1)) (hgo : ∀ pc ls st h, go pc ls st h = some x → zGoal G l k pc ls st h x) (he : (zpJ none st fun y r => zpJ none r fun x0 r => if x0 < 18446744073709551616 ∧ y < 18446744073709551616 then go (pc + 1) ls (vI (zlc x0 y) :: r) h else none) = some x) : zGoal G l k pc ls st h x := by
  obtain ⟨y, r, rfl, he1⟩ := zpJ_inv he
  obtain ⟨x0, r, rfl, he2⟩ := zpJ_inv he1
  obtain ⟨⟨hx, hy⟩, he3⟩ := zif_inv he2
  intro p e R s m args below meth c H locs cells slots tc ts lsr Q F I hc e1 e2 b1 b2 hl K
  refine W.lcmp F.1 F.2.1 hd ?_
  rw [z_lcmp hx hy]
  exact (hgo _ _ _ _ he3 p e R s m args below meth c H locs cells slots tc ts _ Q F I hc e1 e2 b1 b2 hl K)
theorem zs_i2l (hd : decode (zb k) pc = .ok (.i2l, 1)) (hgo : ∀ pc ls st h, go pc ls st h = some x → zGoal G l k pc ls st h x) (he : (zpI none st fun y r => if zr y then go (pc + 1) ls (vJ (y % 18446744073709551616).toNat :: r) h else none) = some x) : zGoal G l k pc ls st h x := by
  obtain ⟨y, r, rfl, he1⟩ := zpI_inv he
  obtain ⟨hy, he2⟩ := zif_inv he1
  intro p e R s m args below meth c H locs cells slots tc ts lsr Q F I hc e1 e2 b1 b2 hl K
  exact lv_i2l F.1 F.2.1 hd (z_i2l hy) (hgo _ _ _ _ he2 p e R s m args below meth c H locs cells slots tc ts _ Q F I hc e1 e2 b1 b2 hl K)
theorem zs_l2i (hd : decode (zb k) pc = .ok (.l2i, 1)) (hgo : ∀ pc ls st h, go pc ls st h = some x → zGoal G l k pc ls st h x) (he : (zpJ none st fun y r => go (pc + 1) ls (vI (y : Int) :: r) h) = some x) : zGoal G l k pc ls st h x := by
  obtain ⟨y, r, rfl, he1⟩ := zpJ_inv he
  intro p e R s m args below meth c H locs cells slots tc ts lsr Q F I hc e1 e2 b1 b2 hl K
  exact lv_l2i F.1 F.2.1 hd (z_l2i y) (hgo _ _ _ _ he1 p e R s m args below meth c H locs cells slots tc ts _ Q F I hc e1 e2 b1 b2 hl K)
theorem zc1_cat {G : zG} {v : zV} (h : zc1 v = true) : (zrV G v).category = 1 := by
  rcases v with z | n | o | u
  · rfl
  · cases h
  · cases o <;> rfl
  · cases h
theorem zs_dup (hd : decode (zb k) pc = .ok (.dup, 1)) (hgo : ∀ pc ls st h, go pc ls st h = some x → zGoal G l k pc ls st h x) (he : (zpop none st fun v r => if zc1 v = true then go (pc + 1) ls (v :: v :: r) h else none) = some x) : zGoal G l k pc ls st h x := by
  obtain ⟨v, r, rfl, he1⟩ := zpop_inv he
  obtain ⟨hv, he2⟩ := zif_inv he1
  intro p e R s m args below meth c H locs cells slots tc ts lsr Q F I hc e1 e2 b1 b2 hl K
  exact lv_dup F.1 F.2.1 hd (zc1_cat hv) (hgo _ _ _ _ he2 p e R s m args below meth c H locs cells slots tc ts _ Q F I hc e1 e2 b1 b2 hl K)
theorem zs_dup2 (hd : decode (zb k) pc = .ok (.dup2, 1)) (hgo : ∀ pc ls st h, go pc ls st h = some x → zGoal G l k pc ls st h x) (he : (zpop none st fun v r => zpop none r fun w0 r => if zc1 v = true ∧ zc1 w0 = true then go (pc + 1) ls (v :: w0 :: v :: w0 :: r) h else none) = some x) : zGoal G l k pc ls st h x := by
  obtain ⟨v, r, rfl, he1⟩ := zpop_inv he
  obtain ⟨w0, r, rfl, he2⟩ := zpop_inv he1
  obtain ⟨⟨hv, hw⟩, he3⟩ := zif_inv he2
  intro p e R s m args below meth c H locs cells slots tc ts lsr Q F I hc e1 e2 b1 b2 hl K
  exact lv_dup2_11 F.1 F.2.1 hd (zc1_cat hv) (zc1_cat hw) (hgo _ _ _ _ he3 p e R s m args below meth c H locs cells slots tc ts _ Q F I hc e1 e2 b1 b2 hl K)
theorem zs_dup_x2 (hd : decode (zb k) pc = .ok (.dup_x2, 1)) (hgo : ∀ pc ls st h, go pc ls st h = some x → zGoal G l k pc ls st h x) (he : (zpop none st fun v r => zpop none r fun w0 r => zpop none r fun u0 r => if zc1 v = true ∧ zc1 w0 = true ∧ zc1 u0 = true then go (pc + 1) ls (v :: w0 :: u0 :: v :: r) h else none) = some x) : zGoal G l k pc ls st h x := by
  obtain ⟨v, r, rfl, he1⟩ := zpop_inv he
  obtain ⟨w0, r, rfl, he2⟩ := zpop_inv he1
  obtain ⟨u0, r, rfl, he3⟩ := zpop_inv he2
  obtain ⟨⟨hv, hw, hu⟩, he4⟩ := zif_inv he3
  intro p e R s m args below meth c H locs cells slots tc ts lsr Q F I hc e1 e2 b1 b2 hl K
  exact lv_dup_x2 F.1 F.2.1 hd (zc1_cat hv) (zc1_cat hw) (zc1_cat hu) (hgo _ _ _ _ he4 p e R s m args below meth c H locs cells slots tc ts _ Q F I hc e1 e2 b1 b2 hl K)
theorem zs_pop (hd : decode (zb k) pc = .ok (.pop, 1)) (hgo : ∀ pc ls st h, go pc ls st h = some x → zGoal G l k pc ls st h x) (he : (zpop none st fun v r => if zc1 v = true then go (pc + 1) ls r h else none) = some x) : zGoal G l k pc ls st h x := by
  obtain ⟨v, r, rfl, he1⟩ := zpop_inv he
  obtain ⟨hv, he2⟩ := zif_inv he1
  intro p e R s m args below meth c H locs cells slots tc ts lsr Q F I hc e1 e2 b1 b2 hl K
  exact lv_pop F.1 F.2.1 hd (zc1_cat hv) (hgo _ _ _ _ he2 p e R s m args below meth c H locs cells slots tc ts _ Q F I hc e1 e2 b1 b2 hl K)
theorem zs_ldc {idx : Nat} {z : Int} (hq : zlk zil (zow k) idx = some z) (hd : decode (zb k) pc = .ok (.ldc idx, 2)) (hgo : ∀ pc ls st h, go pc ls st h = some x → zGoal G l k pc ls st h x) (he : go (pc + 2) ls (vI z :: st) h = some x) : zGoal G l k pc ls st h x := by
  intro p e R s m args below meth c H locs cells slots tc ts lsr Q F I hc e1 e2 b1 b2 hl K
  exact lv_ldc F.1 F.2.1 F.2.2.2.1 (zFx_w F (zil_ok _ (zlk_mem hq))) hd (hgo _ _ _ _ he p e R s m args below meth c H locs cells slots tc ts _ Q F I hc e1 e2 b1 b2 hl K)
theorem zs_ifCond {cn : Jvm.ClassFile.Cond} {off : Int} (h0 : 0 ≤ (pc : Int) + off) (hd : decode (zb k) pc = .ok (.ifCond cn off, 3)) (hgo : ∀ pc ls st h, go pc ls st h = some x → zGoal G l k pc ls st h x) (he : (zpI none st fun z r => if zr z then zbr cn z 0 (go ((pc : Int) + off).toNat ls r h) (go (pc + 3) ls r h) else none) = some x) : zGoal G l k pc ls st h x := by
  obtain ⟨x0, r, rfl, he1⟩ := zpI_inv he
  obtain ⟨hx, he2⟩ := zif_inv he1
  intro p e R s m args below meth c H locs cells slots tc ts lsr Q F I hc e1 e2 b1 b2 hl K
  have ht : (pc : Int) + off = ((((pc : Int) + off).toNat : Nat) : Int) := by omega
  cases cn with
  | eq =>
    refine lv_if_eq F.1 F.2.1 hd ht (fun q => ?_) (fun q => ?_)
    · have q1 : (x0 = 0) := (z_eq hx zr_0).mp q
      exact (hgo _ _ _ _ ((if_pos q1).symm.trans he2) p e R s m args below meth c H locs cells slots tc ts _ Q F I hc e1 e2 b1 b2 hl K)
    · have q1 : ¬ (x0 = 0) := fun z => q ((z_eq hx zr_0).mpr z)
      exact (hgo _ _ _ _ ((if_neg q1).symm.trans he2) p e R s m args below meth c H locs cells slots tc ts _ Q F I hc e1 e2 b1 b2 hl K)
  | ne =>
    refine lv_if_ne F.1 F.2.1 hd ht (fun q => ?_) (fun q => ?_)
    · have q1 : ¬ (x0 = 0) := fun z => q ((z_eq hx zr_0).mpr z)
      exact (hgo _ _ _ _ ((if_neg q1).symm.trans he2) p e R s m args below meth c H locs cells slots tc ts _ Q F I hc e1 e2 b1 b2 hl K)
    · have q1 : (x0 = 0) := (z_eq hx zr_0).mp q
      exact (hgo _ _ _ _ ((if_pos q1).symm.trans he2) p e R s m args below meth c H locs cells slots tc ts _ Q F I hc e1 e2 b1 b2 hl K)
  | lt =>
    refine lv_if_lt F.1 F.2.1 hd ht (fun q => ?_) (fun q => ?_)
    · have q1 : (x0 < 0) := (z_lt hx zr_0).mp q
      exact (hgo _ _ _ _ ((if_pos q1).symm.trans he2) p e R s m args below meth c H locs cells slots tc ts _ Q F I hc e1 e2 b1 b2 hl K)
    · have q1 : ¬ (x0 < 0) := fun z => q ((z_lt hx zr_0).mpr z)
      exact (hgo _ _ _ _ ((if_neg q1).symm.trans he2) p e R s m args below meth c H locs cells slots tc ts _ Q F I hc e1 e2 b1 b2 hl K)
  | ge =>
    refine lv_if_ge F.1 F.2.1 hd ht (fun q => ?_) (fun q => ?_)
    · have q1 : ¬ (x0 < 0) := Int.not_lt.mpr ((z_le zr_0 hx).mp q)
      exact (hgo _ _ _ _ ((if_neg q1).symm.trans he2) p e R s m args below meth c H locs cells slots tc ts _ Q F I hc e1 e2 b1 b2 hl K)
    · have q1 : (x0 < 0) := Int.not_le.mp (fun z => q ((z_le zr_0 hx).mpr z))
      exact (hgo _ _ _ _ ((if_pos q1).symm.trans he2) p e R s m args below meth c H locs cells slots tc ts _ Q F I hc e1 e2 b1 b2 hl K)
  | gt =>
    refine lv_if_gt F.1 F.2.1 hd ht (fun q => ?_) (fun q => ?_)
    · have q1 : (0 < x0) := (z_lt zr_0 hx).mp q
      exact (hgo _ _ _ _ ((if_pos q1).symm.trans he2) p e R s m args below meth c H locs cells slots tc ts _ Q F I hc e1 e2 b1 b2 hl K)
    · have q1 : ¬ (0 < x0) := fun z => q ((z_lt zr_0 hx).mpr z)
      exact (hgo _ _ _ _ ((if_neg q1).symm.trans he2) p e R s m args below meth c H locs cells slots tc ts _ Q F I hc e1 e2 b1 b2 hl K)
  | le =>
    refine lv_if_le F.1 F.2.1 hd ht (fun q => ?_) (fun q => ?_)
    · have q1 : ¬ (0 < x0) := Int.not_lt.mpr ((z_le hx zr_0).mp q)
      exact (hgo _ _ _ _ ((if_neg q1).symm.trans he2) p e R s m args below meth c H locs cells slots tc ts _ Q F I hc e1 e2 b1 b2 hl K)
    · have q1 : (0 < x0) := Int.not_le.mp (fun z => q ((z_le hx zr_0).mpr z))
      exact (hgo _ _ _ _ ((if_pos q1).symm.trans he2) p e R s m args below meth c H locs cells slots tc ts _ Q F I hc e1 e2 b1 b2 hl K)
theorem zs_if_icmp {cn : Jvm.ClassFile.Cond} {off : Int} (h0 : 0 ≤ (pc : Int) + off) (hd : decode (zb k) pc = .ok (.if_icmp cn off, 3)) (hgo : ∀ pc ls st h, go pc ls st h = some x → zGoal G l k pc ls st h x) (he : (zpI none st fun y r => zpI none r fun x0 r => if zr x0 ∧ zr y then zbr cn x0 y (go ((pc : Int) + off).toNat ls r h) (go (pc + 3) ls r h) else none) = some x) : zGoal G l k pc ls st h x := by
  obtain ⟨y, r, rfl, he1⟩ := zpI_inv he
  obtain ⟨x0, r, rfl, he2⟩ := zpI_inv he1
  obtain ⟨⟨hx, hy⟩, he3⟩ := zif_inv he2
  intro p e R s m args below meth c H locs cells slots tc ts lsr Q F I hc e1 e2 b1 b2 hl K
  have ht : (pc : Int) + off = ((((pc : Int) + off).toNat : Nat) : Int) := by omega
  cases cn with
  | eq =>
    refine lv_icmp_eq F.1 F.2.1 hd ht (fun q => ?_) (fun q => ?_)
    · have q1 : (x0 = y) := (z_eq hx hy).mp q
      exact (hgo _ _ _ _ ((if_pos q1).symm.trans he3) p e R s m args below meth c H locs cells slots tc ts _ Q F I hc e1 e2 b1 b2 hl K)
    · have q1 : ¬ (x0 = y) := fun z => q ((z_eq hx hy).mpr z)
      exact (hgo _ _ _ _ ((if_neg q1).symm.trans he3) p e R s m args below meth c H locs cells slots tc ts _ Q F I hc e1 e2 b1 b2 hl K)
  | ne =>
    refine lv_icmp_ne F.1 F.2.1 hd ht (fun q => ?_) (fun q => ?_)
    · have q1 : ¬ (x0 = y) := fun z => q ((z_eq hx hy).mpr z)
      exact (hgo _ _ _ _ ((if_neg q1).symm.trans he3) p e R s m args below meth c H locs cells slots tc ts _ Q F I hc e1 e2 b1 b2 hl K)
    · have q1 : (x0 = y) := (z_eq hx hy).mp q
      exact (hgo _ _ _ _ ((if_pos q1).symm.trans he3) p e R s m args below meth c H locs cells slots tc ts _ Q F I hc e1 e2 b1 b2 hl K)
  | lt =>
    refine lv_icmp_lt F.1 F.2.1 hd ht (fun q => ?_) (fun q => ?_)
    · have q1 : (x0 < y) := (z_lt hx hy).mp q
      exact (hgo _ _ _ _ ((if_pos q1).symm.trans he3) p e R s m args below meth c H locs cells slots tc ts _ Q F I hc e1 e2 b1 b2 hl K)
    · have q1 : ¬ (x0 < y) := fun z => q ((z_lt hx hy).mpr z)
      exact (hgo _ _ _ _ ((if_neg q1).symm.trans he3) p e R s m args below meth c H locs cells slots tc ts _ Q F I hc e1 e2 b1 b2 hl K)
  | ge =>
    refine lv_icmp_ge F.1 F.2.1 hd ht (fun q => ?_) (fun q => ?_)
    · have q1 : ¬ (x0 < y) := Int.not_lt.mpr ((z_le hy hx).mp q)
      exact (hgo _ _ _ _ ((if_neg q1).symm.trans he3) p e R s m args below meth c H locs cells slots tc ts _ Q F I hc e1 e2 b1 b2 hl K)
    · have q1 : (x0 < y) := Int.not_le.mp (fun z => q ((z_le hy hx).mpr z))
      exact (hgo _ _ _ _ ((if_pos q1).symm.trans he3) p e R s m args below meth c H locs cells slots tc ts _ Q F I hc e1 e2 b1 b2 hl K)
  | gt =>
    refine lv_icmp_gt F.1 F.2.1 hd ht (fun q => ?_) (fun q => ?_)
    · have q1 : (y < x0) := (z_lt hy hx).mp q
      exact (hgo _ _ _ _ ((if_pos q1).symm.trans he3) p e R s m args below meth c H locs cells slots tc ts _ Q F I hc e1 e2 b1 b2 hl K)
    · have q1 : ¬ (y < x0) := fun z => q ((z_lt hy hx).mpr z)
      exact (hgo _ _ _ _ ((if_neg q1).symm.trans he3) p e R s m args below meth c H locs cells slots tc ts _ Q F I hc e1 e2 b1 b2 hl K)
  | le =>
    refine lv_icmp_le F.1 F.2.1 hd ht (fun q => ?_) (fun q => ?_)
    · have q1 : ¬ (y < x0) := Int.not_lt.mpr ((z_le hx hy).mp q)
      exact (hgo _ _ _ _ ((if_neg q1).symm.trans he3) p e R s m args below meth c H locs cells slots tc ts _ Q F I hc e1 e2 b1 b2 hl K)
    · have q1 : (y < x0) := Int.not_le.mp (fun z => q ((z_le hx hy).mpr z))
      exact (hgo _ _ _ _ ((if_pos q1).symm.trans he3) p e R s m args below meth c H locs cells slots tc ts _ Q F I hc e1 e2 b1 b2 hl K)
theorem zs_goto {off : Int} (h0 : 0 ≤ (pc : Int) + off) (hd : decode (zb k) pc = .ok (.goto off, 3)) (hgo : ∀ pc ls st h, go pc ls st h = some x → zGoal G l k pc ls st h x) (he : go ((pc : Int) + off).toNat ls st h = some x) : zGoal G l k pc ls st h x := by
  intro p e R s m args below meth c H locs cells slots tc ts lsr Q F I hc e1 e2 b1 b2 hl K
  have ht : (pc : Int) + off = ((((pc : Int) + off).toNat : Nat) : Int) := by omega
  exact lv_goto F.1 F.2.1 hd ht (hgo _ _ _ _ he p e R s m args below meth c H locs cells slots tc ts _ Q F I hc e1 e2 b1 b2 hl K)
theorem zs_ifnonnull {off : Int} (h0 : 0 ≤ (pc : Int) + off) (hd : decode (zb k) pc = .ok (.ifnonnull off, 3)) (hgo : ∀ pc ls st h, go pc ls st h = some x → zGoal G l k pc ls st h x) (he : (zpP none st fun q r => match q with
    | some _ => go ((pc : Int) + off).toNat ls r h
    | none => go (pc + 3) ls r h) = some x) : zGoal G l k pc ls st h x := by
  obtain ⟨q, r, rfl, he1⟩ := zpP_inv he
  intro p e R s m args below meth c H locs cells slots tc ts lsr Q F I hc e1 e2 b1 b2 hl K
  have ht : (pc : Int) + off = ((((pc : Int) + off).toNat : Nat) : Int) := by omega
  cases q with
  | none => exact lv_ifnonnullN F.1 F.2.1 hd (hgo _ _ _ _ he1 p e R s m args below meth c H locs cells slots tc ts _ Q F I hc e1 e2 b1 b2 hl K)
  | some a => exact lv_ifnonnull F.1 F.2.1 hd ht (hgo _ _ _ _ he1 p e R s m args below meth c H locs cells slots tc ts _ Q F I hc e1 e2 b1 b2 hl K)
theorem zs_tableswitch {d lo hi : Int} {os : Array Int} {len : Nat} (hd : decode (zb k) pc = .ok (.tableswitch d lo hi os, len)) (hgo : ∀ pc ls st h, go pc ls st h = some x → zGoal G l k pc ls st h x) (he : (zpI none st fun z r => if zr z then (if z < lo ∨ hi < z then (if 0 ≤ (pc : Int) + d then go ((pc : Int) + d).toNat ls r h else none) else match os[(z - lo).toNat]? with
    | some o => if 0 ≤ (pc : Int) + o then go ((pc : Int) + o).toNat ls r h else none
    | none => none) else none) = some x) : zGoal G l k pc ls st h x := by
  obtain ⟨z, r, rfl, he1⟩ := zpI_inv he
  obtain ⟨hz, he2⟩ := zif_inv he1
  intro p e R s m args below meth c H locs cells slots tc ts lsr Q F I hc e1 e2 b1 b2 hl K
  have ez := z_toInt hz
  by_cases hq : z < lo ∨ hi < z
  · have hA := (if_pos hq).symm.trans he2
    obtain ⟨h0, hB⟩ := zif_inv hA
    have ht : (pc : Int) + d = ((((pc : Int) + d).toNat : Nat) : Int) := by omega
    exact lv_tableOut F.1 F.2.1 hd (by rw [ez]; exact hq) ht (hgo _ _ _ _ hB p e R s m args below meth c H locs cells slots tc ts _ Q F I hc e1 e2 b1 b2 hl K)
  · have hA := (if_neg hq).symm.trans he2
    split at hA
    next off ho =>
      obtain ⟨h0, hB⟩ := zif_inv hA
      have ht : (pc : Int) + off = ((((pc : Int) + off).toNat : Nat) : Int) := by omega
      exact lv_tableIn F.1 F.2.1 hd (by rw [ez]; omega) (by rw [ez]; omega) (by rw [ez]; exact ho) ht (hgo _ _ _ _ hB p e R s m args below meth c H locs cells slots tc ts _ Q F I hc e1 e2 b1 b2 hl K)
    next => cases hA
theorem zs_getfield {idx ci sl : Nat} (hq : zlk zfl (zow k) idx = some (ci, sl)) (hd : decode (zb k) pc = .ok (.getfield idx, 3)) (hgo : ∀ pc ls st h, go pc ls st h = some x → zGoal G l k pc ls st h x) (he : (zpR none st fun a r => zhO none h[a]? fun c fs => if c = ci then (match fs[sl]? with
    | some v => go (pc + 3) ls (v :: r) h
    | none => none) else none) = some x) : zGoal G l k pc ls st h x := by
  obtain ⟨a, r, rfl, he1⟩ := zpR_inv he
  obtain ⟨c0, fs, ha, he2⟩ := zhO_inv he1
  obtain ⟨rfl, he3⟩ := zif_inv he2
  split at he3
  next v hv =>
    intro p e R s m args below meth c H locs cells slots tc ts lsr Q F I hc e1 e2 b1 b2 hl K
    have h3 := zro_O I.2.2.1 ha
    obtain ⟨C, T, N, hcl, hsl, hk⟩ := zfl_ok _ (zlk_mem hq)
    have hci : c0 < 10 := (List.getElem?_eq_some_iff.mp hcl).1
    obtain ⟨C', T', N', ty, hcl', -, hin, -⟩ := zcl_ok c0 hci
    cases hcl.symm.trans hcl'
    have hv' : (fs.map (zrV G))[sl]? = some (zrV G v) := by rw [List.getElem?_map, hv]; rfl
    rw [List.map_cons, zrV_R h3]
    rcases hk with hk | ⟨host, hk, -⟩
    · exact va_get F.1 F.2.1 F.2.2.2.2.1 (fun w hw => zW_iff.mpr (hin w hw)) F.2.2.2.1 F.2.2.2.2.2.2.2.2.1 I.1 (a - 3) (zww_at h3 ha) hcl sl hsl (zFx_w F hk) (fun _ h9 => h9) hv' hd (hgo _ _ _ _ he3 p e R s m args below meth c H locs cells slots tc ts _ Q F I hc e1 e2 b1 b2 hl K)
    · exact va_getN F.1 F.2.1 F.2.2.2.2.1 (fun w hw => zW_iff.mpr (hin w hw)) F.2.2.2.1 F.2.2.2.2.2.2.2.2.1 I.1 (a - 3) (zww_at h3 ha) hcl sl hsl (zFx_w F hk) (fun _ h9 => h9) hv' hd (hgo _ _ _ _ he3 p e R s m args below meth c H locs cells slots tc ts _ Q F I hc e1 e2 b1 b2 hl K)
  next => cases he3
theorem zs_laload (hd : decode (zb k) pc = .ok (.laload, 1)) (hgo : ∀ pc ls st h, go pc ls st h = some x → zGoal G l k pc ls st h x) (he : (zpI none st fun i r => zpR none r fun a r => zhJ none h[a]? fun n f => if zix i n then go (pc + 1) ls (vJ (f i.toNat) :: r) h else none) = some x) : zGoal G l k pc ls st h x := by
  obtain ⟨i, r, rfl, he1⟩ := zpI_inv he
  obtain ⟨a, r, rfl, he2⟩ := zpR_inv he1
  obtain ⟨n, f, ha, he3⟩ := zhJ_inv he2
  obtain ⟨hi, he4⟩ := zif_inv he3
  intro p e R s m args below meth c H locs cells slots tc ts lsr Q F I hc e1 e2 b1 b2 hl K
  have h3 := zro_N I.2.2.1 ha
  obtain ⟨hin, hcl⟩ := z_in hi
  rw [List.map_cons, List.map_cons, zrV_R h3]
  refine va_lald F.1 F.2.1 F.2.2.2.2.2.2.2.2.1 I.1 (a - 3) 2 (zww_at h3 ha) rfl hin hd ?_
  rw [hcl]
  exact (hgo _ _ _ _ he4 p e R s m args below meth c H locs cells slots tc ts _ Q F I hc e1 e2 b1 b2 hl K)
theorem zs_baload (hd : decode (zb k) pc = .ok (.baload, 1)) (hgo : ∀ pc ls st h, go pc ls st h = some x → zGoal G l k pc ls st h x) (he : (zpI none st fun i r => zpR none r fun a r => zhZ none h[a]? fun n f => if zix i n then go (pc + 1) ls (vI (f i.toNat) :: r) h else none) = some x) : zGoal G l k pc ls st h x := by
  obtain ⟨i, r, rfl, he1⟩ := zpI_inv he
  obtain ⟨a, r, rfl, he2⟩ := zpR_inv he1
  obtain ⟨n, f, ha, he3⟩ := zhZ_inv he2
  obtain ⟨hi, he4⟩ := zif_inv he3
  intro p e R s m args below meth c H locs cells slots tc ts lsr Q F I hc e1 e2 b1 b2 hl K
  have h3 := zro_N I.2.2.1 ha
  obtain ⟨hin, hcl⟩ := z_in hi
  rw [List.map_cons, List.map_cons, zrV_R h3]
  refine va_zald F.1 F.2.1 F.2.2.2.2.2.2.2.2.1 I.1 (a - 3) 1 (zww_at h3 ha) rfl hin hd ?_
  rw [hcl]
  exact (hgo _ _ _ _ he4 p e R s m args below meth c H locs cells slots tc ts _ Q F I hc e1 e2 b1 b2 hl K)
theorem zs_aaload (hd : decode (zb k) pc = .ok (.aaload, 1)) (hgo : ∀ pc ls st h, go pc ls st h = some x → zGoal G l k pc ls st h x) (he : (zpI none st fun i r => zpR none r fun a r => zhQ none h[a]? fun n f => if zix i n then go (pc + 1) ls (vP (f i.toNat) :: r) h else none) = some x) : zGoal G l k pc ls st h x := by
  obtain ⟨i, r, rfl, he1⟩ := zpI_inv he
  obtain ⟨a, r, rfl, he2⟩ := zpR_inv he1
  obtain ⟨n, f, ha, he3⟩ := zhQ_inv he2
  obtain ⟨hi, he4⟩ := zif_inv he3
  intro p e R s m args below meth c H locs cells slots tc ts lsr Q F I hc e1 e2 b1 b2 hl K
  have h3 := zro_N I.2.2.1 ha
  obtain ⟨hin, hcl⟩ := z_in hi
  rw [List.map_cons, List.map_cons, zrV_R h3]
  refine va_aldq F.1 F.2.1 F.2.2.2.2.2.2.2.2.1 I.1 (a - 3) 3 (zww_at h3 ha) rfl hin hd ?_
  rw [hcl]
  exact (hgo _ _ _ _ he4 p e R s m args below meth c H locs cells slots tc ts _ Q F I hc e1 e2 b1 b2 hl K)
theorem zs_iaload (hd : decode (zb k) pc = .ok (.iaload, 1)) (hgo : ∀ pc ls st h, go pc ls st h = some x → zGoal G l k pc ls st h x) (he : (zpI none st fun i r => zpR none r fun a r => zhI none h[a]? fun n f => if zix i n then go (pc + 1) ls (vI (f i.toNat) :: r) h else none) = some x) : zGoal G l k pc ls st h x := by
  obtain ⟨i, r, rfl, he1⟩ := zpI_inv he
  obtain ⟨a, r, rfl, he2⟩ := zpR_inv he1
  obtain ⟨n, f, ha, he3⟩ := zhI_inv he2
  obtain ⟨hi, he4⟩ := zif_inv he3
  intro p e R s m args below meth c H locs cells slots tc ts lsr Q F I hc e1 e2 b1 b2 hl K
  obtain ⟨hin, hcl⟩ := z_in hi
  have FX := F.2.2.2.2.2.2.2.2
  rcases Nat.lt_or_ge a 3 with h3 | h3
  · obtain ⟨r0, r1, r2⟩ := I.2.2.1
    obtain ⟨-, x1, x2, x3, -, -, ⟨l1, l2, l3⟩, lz, -⟩ := FX
    rcases (show a = 0 ∨ a = 1 ∨ a = 2 by omega) with rfl | rfl | rfl
    · cases r0.symm.trans ha
      refine va_sld F.1 F.2.1 x1 (Nat.lt_of_lt_of_le l1 lz) (Nat.not_le.mpr l1) I.2.2.2 hin hd ?_
      rw [hcl]
      exact (hgo _ _ _ _ he4 p e R s m args below meth c H locs cells slots tc ts _ Q F I hc e1 e2 b1 b2 hl K)
    · cases r1.symm.trans ha
      refine va_sld F.1 F.2.1 x2 (Nat.lt_of_lt_of_le l2 lz) (Nat.not_le.mpr l2) I.2.2.2 hin hd ?_
      rw [hcl]
      exact (hgo _ _ _ _ he4 p e R s m args below meth c H locs cells slots tc ts _ Q F I hc e1 e2 b1 b2 hl K)
    · cases r2.symm.trans ha
      refine va_sld F.1 F.2.1 x3 (Nat.lt_of_lt_of_le l3 lz) (Nat.not_le.mpr l3) I.2.2.2 hin hd ?_
      rw [hcl, ← Int32.ofInt_toInt (gxs G i.toNat)]
      exact (hgo _ _ _ _ he4 p e R s m args below meth c H locs cells slots tc ts _ Q F I hc e1 e2 b1 b2 hl K)
  · rw [List.map_cons, List.map_cons, zrV_R h3]
    refine va_iald F.1 F.2.1 FX.1 I.1 (a - 3) 0 (zww_at h3 ha) rfl hin hd ?_
    rw [hcl]
    exact (hgo _ _ _ _ he4 p e R s m args below meth c H locs cells slots tc ts _ Q F I hc e1 e2 b1 b2 hl K)
theorem zs_arraylength (hd : decode (zb k) pc = .ok (.arraylength, 1)) (hgo : ∀ pc ls st h, go pc ls st h = some x → zGoal G l k pc ls st h x) (he : (zpR none st fun a r => zhA none h[a]? fun n _ => go (pc + 1) ls (vI (n : Int) :: r) h) = some x) : zGoal G l k pc ls st h x := by
  obtain ⟨a, r, rfl, he1⟩ := zpR_inv he
  obtain ⟨n, f, ha, he2⟩ := zhA_inv he1
  intro p e R s m args below meth c H locs cells slots tc ts lsr Q F I hc e1 e2 b1 b2 hl K
  have FX := F.2.2.2.2.2.2.2.2
  rcases Nat.lt_or_ge a 3 with h3 | h3
  · obtain ⟨r0, r1, r2⟩ := I.2.2.1
    obtain ⟨-, x1, x2, x3, -, -, ⟨l1, l2, l3⟩, lz, -⟩ := FX
    rcases (show a = 0 ∨ a = 1 ∨ a = 2 by omega) with rfl | rfl | rfl
    · cases r0.symm.trans ha
      refine va_slen F.1 F.2.1 x1 (Nat.lt_of_lt_of_le l1 lz) (Nat.not_le.mpr l1) I.2.2.2 hd ?_
      rw [← Int32.ofInt_eq_ofNat]
      exact (hgo _ _ _ _ he2 p e R s m args below meth c H locs cells slots tc ts _ Q F I hc e1 e2 b1 b2 hl K)
    · cases r1.symm.trans ha
      refine va_slen F.1 F.2.1 x2 (Nat.lt_of_lt_of_le l2 lz) (Nat.not_le.mpr l2) I.2.2.2 hd ?_
      rw [← Int32.ofInt_eq_ofNat]
      exact (hgo _ _ _ _ he2 p e R s m args below meth c H locs cells slots tc ts _ Q F I hc e1 e2 b1 b2 hl K)
    · cases r2.symm.trans ha
      refine va_slen F.1 F.2.1 x3 (Nat.lt_of_lt_of_le l3 lz) (Nat.not_le.mpr l3) I.2.2.2 hd ?_
      rw [← Int32.ofInt_eq_ofNat]
      exact (hgo _ _ _ _ he2 p e R s m args below meth c H locs cells slots tc ts _ Q F I hc e1 e2 b1 b2 hl K)
  · rw [List.map_cons, zrV_R h3]
    rcases f with f | f | f | f
    · exact va_alen F.1 F.2.1 FX.1 I.1 (a - 3) 0 (zww_at h3 ha) rfl (v := Int32.ofInt (n : Int)) Int32.ofInt_eq_ofNat.symm hd (hgo _ _ _ _ he2 p e R s m args below meth c H locs cells slots tc ts _ Q F I hc e1 e2 b1 b2 hl K)
    · exact va_alen F.1 F.2.1 FX.1 I.1 (a - 3) 1 (zww_at h3 ha) rfl (v := Int32.ofInt (n : Int)) Int32.ofInt_eq_ofNat.symm hd (hgo _ _ _ _ he2 p e R s m args below meth c H locs cells slots tc ts _ Q F I hc e1 e2 b1 b2 hl K)
    · exact va_alen F.1 F.2.1 FX.1 I.1 (a - 3) 2 (zww_at h3 ha) rfl (v := Int32.ofInt (n : Int)) Int32.ofInt_eq_ofNat.symm hd (hgo _ _ _ _ he2 p e R s m args below meth c H locs cells slots tc ts _ Q F I hc e1 e2 b1 b2 hl K)
    · exact va_alen F.1 F.2.1 FX.1 I.1 (a - 3) 3 (zww_at h3 ha) rfl (v := Int32.ofInt (n : Int)) Int32.ofInt_eq_ofNat.symm hd (hgo _ _ _ _ he2 p e R s m args below meth c H locs cells slots tc ts _ Q F I hc e1 e2 b1 b2 hl K)
theorem zs_getstatic {idx j : Nat} (hq : zlk zsl (zow k) idx = some j) (hd : decode (zb k) pc = .ok (.getstatic idx, 3)) (hgo : ∀ pc ls st h, go pc ls st h = some x → zGoal G l k pc ls st h x) (he : go (pc + 3) ls (vR j :: st) h = some x) : zGoal G l k pc ls st h x := by
  intro p e R s m args below meth c H locs cells slots tc ts lsr Q F I hc e1 e2 b1 b2 hl K
  have FX := F.2.2.2.2.2.2.2.2
  have hS := I.2.2.2
  rcases zsl_ok _ (zlk_mem hq) with ⟨e0, hk⟩ | ⟨e0, hk⟩
  · simp only at e0
    subst e0
    exact va_gets F.1 F.2.1 FX.2.2.2.2.1 hS F.2.2.2.1 (zFx_w F hk) (fun _ h9 => h9) hd (hgo _ _ _ _ he p e R s m args below meth c H locs cells slots tc ts _ Q F I hc e1 e2 b1 b2 hl K)
  · simp only at e0
    subst e0
    exact va_gets F.1 F.2.1 FX.2.2.2.2.2.1 hS F.2.2.2.1 (zFx_w F hk) (fun _ h9 => h9) hd (hgo _ _ _ _ he p e R s m args below meth c H locs cells slots tc ts _ Q F I hc e1 e2 b1 b2 hl K)
end
