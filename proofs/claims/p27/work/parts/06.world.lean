/-! Our cells beside the machine's -/
/-- what stays fixed in a run: the kit's numbers of classes and slots; where our cells begin; the addresses of LOWEST, HIGHEST, the script, the script's length; the array classes; the script -/
abbrev zG : Type := va_G × (Nat × Nat × Nat × Nat × Nat) × (Nat × Nat × Nat × Nat) × (Nat → Int32)
def gD (G : zG) : va_G := G.1
def gsz (G : zG) : Nat := G.2.1.1
def gaL (G : zG) : Nat := G.2.1.2.1
def gaH (G : zG) : Nat := G.2.1.2.2.1
def gb (G : zG) : Nat := G.2.1.2.2.2.1
def gL (G : zG) : Nat := G.2.1.2.2.2.2
def gcI (G : zG) : Nat := G.2.2.1.1
def gcZ (G : zG) : Nat := G.2.2.1.2.1
def gcJ (G : zG) : Nat := G.2.2.1.2.2.1
def gcQ (G : zG) : Nat := G.2.2.1.2.2.2
def gxs (G : zG) : Nat → Int32 := G.2.2.2
abbrev gtys (G : zG) : List (ClassId × FieldType) := [(gcI G, .int), (gcZ G, .boolean), (gcJ G, .long), (gcQ G, .object "GarbleWords$State")]
def zad (G : zG) (k : Nat) : Nat := if k = 0 then gaL G else if k = 1 then gaH G else if k = 2 then gb G else gsz G + (k - 3)
theorem zad_ge {G : zG} {k : Nat} (h : 3 ≤ k) : zad G k = gsz G + (k - 3) := by
  unfold zad
  rw [if_neg (by omega), if_neg (by omega), if_neg (by omega)]
def zrV (G : zG) (v : zV) : Value := match v with
  | Sum.inl z => .int (Int32.ofInt z)
  | Sum.inr (Sum.inl n) => .long (Int64.ofNat n)
  | Sum.inr (Sum.inr (Sum.inl o)) => va_rf (o.map (zad G))
  | _ => .retAddr 0
theorem zrV_R {G : zG} {a : Nat} (h : 3 ≤ a) : zrV G (vR a) = .ref (gsz G + (a - 3)) := by
  show va_rf ((some a).map (zad G)) = _
  rw [Option.map_some, zad_ge h]
  rfl
def zre (G : zG) (e : zE) : va_E := match e with
  | Sum.inl (n, Sum.inl f) => .inl (gcI G, n, .inl (fun j => Int32.ofInt (f j)))
  | Sum.inl (n, Sum.inr (Sum.inl f)) => .inl (gcZ G, n, .inl (fun j => Int32.ofInt (f j)))
  | Sum.inl (n, Sum.inr (Sum.inr (Sum.inl f))) => .inl (gcJ G, n, .inr (.inl (fun j => Int64.ofNat (f j))))
  | Sum.inl (n, Sum.inr (Sum.inr (Sum.inr f))) => .inl (gcQ G, n, .inr (.inr (.inr (.inr (fun j => (f j).map (zad G))))))
  | Sum.inr (c, fs) => .inr (c, fs.map (zrV G))
def zww (G : zG) (h : zH) : va_W := ((h.drop 3).zipIdx).map fun q => (gsz G + q.2, zre G q.1)
theorem zww_get (G : zG) (h : zH) (i : Nat) : (zww G h)[i]? = (h[i + 3]?).map fun e => (gsz G + i, zre G e) := by
  unfold zww
  rw [List.getElem?_map, List.getElem?_zipIdx, List.getElem?_drop, Nat.add_comm 3 i]
  cases h[i + 3]? with
  | none => rfl
  | some e => simp
theorem zww_at {G : zG} {h : zH} {a : Nat} {e : zE} (h3 : 3 ≤ a) (he : h[a]? = some e) : (zww G h)[a - 3]? = some (gsz G + (a - 3), zre G e) := by
  rw [zww_get, show a - 3 + 3 = a by omega, he]
  rfl
theorem zww_set {G : zG} {h : zH} {a : Nat} (e : zE) (h3 : 3 ≤ a) : zww G (h.set a e) = (zww G h).set (a - 3) (gsz G + (a - 3), zre G e) := by
  apply List.ext_getElem?
  intro i
  rw [zww_get, List.getElem?_set, List.getElem?_set, zww_get]
  have hl : (zww G h).length = h.length - 3 := by simp [zww]
  by_cases hi : a - 3 = i
  · subst hi
    rw [if_pos rfl, show a - 3 + 3 = a by omega, if_pos rfl, hl]
    by_cases ha : a < h.length
    · rw [if_pos ha, if_pos (by omega)]
      rfl
    · rw [if_neg ha, if_neg (by omega)]
      rfl
  · rw [if_neg hi, if_neg (by omega)]
theorem zww_app {G : zG} {h : zH} (e : zE) (h3 : 3 ≤ h.length) : zww G (h ++ [e]) = zww G h ++ [(gsz G + (h.length - 3), zre G e)] := by
  have hl : (zww G h).length = h.length - 3 := by simp [zww]
  apply List.ext_getElem?
  intro i
  rw [zww_get]
  by_cases hi : i < h.length - 3
  · rw [List.getElem?_append_left (by omega), List.getElem?_append_left (by omega), zww_get]
  · rw [List.getElem?_append_right (by omega), List.getElem?_append_right (by omega), hl]
    by_cases hj : i = h.length - 3
    · subst hj
      rw [Nat.sub_self, show h.length - 3 + 3 - h.length = 0 by omega]
      rfl
    · rw [List.getElem?_eq_none (by simp; omega), List.getElem?_eq_none (by simp; omega)]
      rfl
abbrev gA (G : zG) : Nat → Prop := fun q => gsz G ≤ q
theorem zww_D (G : zG) (h : zH) : va_D (gA G) (zww G h) := by
  refine ⟨fun i j p q hi hj hpq => ?_, fun k q hk => ?_⟩
  · rw [zww_get] at hi hj
    obtain ⟨x, -, rfl⟩ := Option.map_eq_some_iff.mp hi
    obtain ⟨y, -, rfl⟩ := Option.map_eq_some_iff.mp hj
    have e : gsz G + i = gsz G + j := hpq
    omega
  · rw [zww_get] at hk
    obtain ⟨x, -, rfl⟩ := Option.map_eq_some_iff.mp hk
    exact Nat.le_add_right _ _
def zlowf (j : Nat) : Int := [1, 2, 1].getD j 0
def zhif (j : Nat) : Int := [99, 15, 4].getD j 0
/-- the three rows that nobody writes -/
def zro (G : zG) (h : zH) : Prop := h[0]? = some (aI 3 zlowf) ∧ h[1]? = some (aI 3 zhif) ∧ h[2]? = some (aI (gL G) fun j => (gxs G j).toInt)
theorem zro_set {G : zG} {h : zH} {a : Nat} {e : zE} (hr : zro G h) (h3 : 3 ≤ a) : zro G (h.set a e) := by
  obtain ⟨h0, h1, h2⟩ := hr
  exact ⟨by rw [List.getElem?_set_ne (by omega)]; exact h0, by rw [List.getElem?_set_ne (by omega)]; exact h1, by rw [List.getElem?_set_ne (by omega)]; exact h2⟩
theorem zro_app {G : zG} {h : zH} {e : zE} (hr : zro G h) : zro G (h ++ [e]) := by
  obtain ⟨h0, h1, h2⟩ := hr
  have f : ∀ {k : Nat} {v : zE}, h[k]? = some v → (h ++ [e])[k]? = some v := fun {k v} hk => by
    rw [List.getElem?_append_left (List.getElem?_eq_some_iff.mp hk).1]
    exact hk
  exact ⟨f h0, f h1, f h2⟩
theorem zro_3 {G : zG} {h : zH} (hr : zro G h) : 3 ≤ h.length := (List.getElem?_eq_some_iff.mp hr.2.2).1
/-- an object is none of the three -/
theorem zro_O {G : zG} {h : zH} (hr : zro G h) {a c : Nat} {fs : List zV} (ha : h[a]? = some (oO c fs)) : 3 ≤ a := by
  obtain ⟨h0, h1, h2⟩ := hr
  rcases Nat.lt_or_ge a 3 with hl | hl
  · exfalso
    rcases (show a = 0 ∨ a = 1 ∨ a = 2 by omega) with rfl | rfl | rfl
    · rw [h0] at ha; cases ha
    · rw [h1] at ha; cases ha
    · rw [h2] at ha; cases ha
  · exact hl
theorem zro_N {G : zG} {h : zH} (hr : zro G h) {a n : Nat} {f : (Nat → Int) ⊕ ((Nat → Nat) ⊕ (Nat → Option Nat))} (ha : h[a]? = some (Sum.inl (n, Sum.inr f))) : 3 ≤ a := by
  obtain ⟨h0, h1, h2⟩ := hr
  rcases Nat.lt_or_ge a 3 with hl | hl
  · exfalso
    rcases (show a = 0 ∨ a = 1 ∨ a = 2 by omega) with rfl | rfl | rfl
    · rw [h0] at ha; cases ha
    · rw [h1] at ha; cases ha
    · rw [h2] at ha; cases ha
  · exact hl
/-- what the machine's tables and old cells give -/
def zX (G : zG) (U : State) : Prop := va_K (gD G) vwCl (gtys G) U ∧ va_X (gaL G) 3 (fun j => Int32.ofInt (zlowf j)) U U.heap ∧ va_X (gaH G) 3 (fun j => Int32.ofInt (zhif j)) U U.heap ∧ va_X (gb G) (gL G) (gxs G) U U.heap ∧ va_Z "GarbleWords" "LOWEST" "[I" (.ref (gaL G)) (gA G) U U.heap ∧ va_Z "GarbleWords" "HIGHEST" "[I" (.ref (gaH G)) (gA G) U U.heap ∧ (gaL G < gsz G ∧ gaH G < gsz G ∧ gb G < gsz G) ∧ gsz G ≤ U.heap.size ∧ gL G ≤ 2048
theorem zX.next {G : zG} {s U : State} (h : zX G s) (hvm : s.vm.Alike U.vm) (hq : ∀ q : Nat, q < gsz G → U.heap[q]? = s.heap[q]?) (hsz : gsz G ≤ U.heap.size) : zX G U := by
  obtain ⟨hK, x1, x2, x3, z1, z2, ⟨l1, l2, l3⟩, -, hL⟩ := h
  have k1 : ∀ a : Nat, a < s.heap.size → ¬ gA G a → U.heap[a]? = s.heap[a]? := fun a _ ha => hq a (Nat.lt_of_not_le ha)
  exact ⟨hK.moved hvm, (x1.kept (hq _ l1)).moved hvm, (x2.kept (hq _ l2)).moved hvm, (x3.kept (hq _ l3)).moved hvm, (z1.kept k1).moved hvm, (z2.kept k1).moved hvm, ⟨l1, l2, l3⟩, hsz, hL⟩
/-- the heap of a frame -/
def zIn (G : zG) (s : State) (h : zH) (H : Heap) (locs : List Loc) : Prop := va_P (gD G) vwCl (zww G h) H ∧ H.size = gsz G + (h.length - 3) ∧ zro G h ∧ va_S (gA G) s.heap H locs
-- the locals
def zlv (G : zG) (ls : List zV) : List (Nat × Value) := ls.zipIdx.filterMap fun q => if q.1 = vU then none else some (q.2, zrV G q.1)
theorem zlv_mem {G : zG} {ls : List zV} {q : Nat × Value} : q ∈ zlv G ls ↔ ∃ v : zV, ls[q.1]? = some v ∧ v ≠ vU ∧ q.2 = zrV G v := by
  unfold zlv
  rw [List.mem_filterMap]
  constructor
  · rintro ⟨⟨v, i⟩, h1, h2⟩
    rw [List.mk_mem_zipIdx_iff_getElem?] at h1
    by_cases hv : v = vU
    · simp [hv] at h2
    · simp only [hv, if_false, Option.some.injEq] at h2
      subst h2
      exact ⟨v, h1, hv, rfl⟩
  · rintro ⟨v, h1, h2, h3⟩
    refine ⟨(v, q.1), by rw [List.mk_mem_zipIdx_iff_getElem?]; exact h1, ?_⟩
    simp only [h2, if_false, ← h3]
theorem zlv_at {G : zG} {ls : List zV} {lsr : Array Slot} {nL i : Nat} {v : zV} (hl : lv_has lsr nL (zlv G ls)) (h : ls[i]? = some v) (hv : v ≠ vU) : lsr[i]? = some (.val (zrV G v)) :=
  hl.2.2 (i, zrV G v) (zlv_mem.mpr ⟨v, h, hv, rfl⟩)
theorem lv_mono {lsr : Array Slot} {nL : Nat} {l l' : List (Nat × Value)} (h : lv_has lsr nL l) (hs : ∀ q ∈ l', q ∈ l) : lv_has lsr nL l' := ⟨h.1, h.2.1, fun q hq => h.2.2 q (hs q hq)⟩
theorem zrV_cat2 {G : zG} {v : zV} (h : (zrV G v).category = 2) : ∃ n : Nat, v = vJ n := by
  rcases v with z | n | o | u
  · simp [zrV, Value.category] at h
  · exact ⟨n, rfl⟩
  · cases o <;> simp [zrV, va_rf, Value.category] at h
  · simp [zrV, Value.category] at h
theorem zclr_get {ls : List zV} {n j : Nat} {v : zV} (h : (zclr ls n)[j]? = some v) (hv : v ≠ vU) : ls[j]? = some v ∧ ((j + 1 = n ∨ (n = 0 ∧ j = 0)) → ¬ ∃ m : Nat, v = vJ m) := by
  unfold zclr at h
  split at h
  next m hm =>
    rw [List.getElem?_set] at h
    split at h
    next hj =>
      split at h
      · exact absurd (Option.some.inj h).symm hv
      · cases h
    next hj => exact ⟨h, fun hh => absurd (by omega) hj⟩
  next hm =>
    refine ⟨h, fun hh hx => ?_⟩
    obtain ⟨m, rfl⟩ := hx
    exact hm m (by rw [show n - 1 = j by omega]; exact h)
theorem zclr_len (ls : List zV) (n : Nat) : (zclr ls n).length = ls.length := by
  unfold zclr
  split <;> simp
theorem zlv_set1 {G : zG} {ls : List zV} {n : Nat} {v : zV} (hv : v ≠ vU) : ∀ q ∈ zlv G (zset1 ls n v), q ∈ (n, zrV G v) :: (zlv G ls).filter (fun q => !(q.1 == n) && !(q.1 + 1 == n && q.2.category == 2)) := by
  intro q hq
  obtain ⟨w, h1, h2, h3⟩ := zlv_mem.mp hq
  unfold zset1 at h1
  rw [List.getElem?_set] at h1
  split at h1
  next hj =>
    split at h1
    · have e := Option.some.inj h1
      subst e
      refine List.mem_cons.mpr (Or.inl ?_)
      rw [hj, ← h3]
    · cases h1
  next hj =>
    obtain ⟨g1, g2⟩ := zclr_get h1 h2
    refine List.mem_cons.mpr (Or.inr (List.mem_filter.mpr ⟨zlv_mem.mpr ⟨w, g1, h2, h3⟩, ?_⟩))
    simp only [Bool.and_eq_true, Bool.not_eq_true', beq_eq_false_iff_ne, ne_eq, Bool.and_eq_false_iff]
    refine ⟨fun e => hj e.symm, ?_⟩
    by_cases hn : q.1 + 1 = n
    · refine Or.inr (fun e => g2 (Or.inl hn) (zrV_cat2 (G := G) (by rw [← h3]; exact e)))
    · exact Or.inl hn
theorem zlv_set2 {G : zG} {ls : List zV} {n : Nat} {v : zV} (hv : v ≠ vU) : ∀ q ∈ zlv G (zset2 ls n v), q ∈ (n, zrV G v) :: (zlv G ls).filter (fun q => !(q.1 == n) && (!(q.1 == n + 1) && !(q.1 + 1 == n && q.2.category == 2))) := by
  intro q hq
  obtain ⟨w, h1, h2, h3⟩ := zlv_mem.mp hq
  unfold zset2 at h1
  rw [List.getElem?_set] at h1
  split at h1
  next hj =>
    split at h1
    · exact absurd (Option.some.inj h1).symm h2
    · cases h1
  next hj0 =>
  rw [List.getElem?_set] at h1
  split at h1
  next hj =>
    split at h1
    · have e := Option.some.inj h1
      subst e
      refine List.mem_cons.mpr (Or.inl ?_)
      rw [hj, ← h3]
    · cases h1
  next hj =>
    obtain ⟨g1, g2⟩ := zclr_get h1 h2
    refine List.mem_cons.mpr (Or.inr (List.mem_filter.mpr ⟨zlv_mem.mpr ⟨w, g1, h2, h3⟩, ?_⟩))
    simp only [Bool.and_eq_true, Bool.not_eq_true', beq_eq_false_iff_ne, ne_eq, Bool.and_eq_false_iff]
    refine ⟨fun e => hj e.symm, fun e => hj0 e.symm, ?_⟩
    by_cases hn : q.1 + 1 = n
    · refine Or.inr (fun e => g2 (Or.inl hn) (zrV_cat2 (G := G) (by rw [← h3]; exact e)))
    · exact Or.inl hn
theorem zlv_entry {G : zG} (k : Nat) (as : List zV) (h : (zexp as).length ≤ zmx k) : lv_has ((lg_sl (as.map (zrV G)) ++ List.replicate (zmx k - (lg_sl (as.map (zrV G))).length) Slot.unset).toArray) (zmx k) (zlv G (zloc k as)) := by
  have hlen : ∀ as : List zV, (lg_sl (as.map (zrV G))).length = (zexp as).length := by
    intro as
    induction as with
    | nil => rfl
    | cons v t ih =>
      have e1 : lg_sl ((v :: t).map (zrV G)) = (if (zrV G v).category = 2 then [Slot.val (zrV G v), Slot.second] else [Slot.val (zrV G v)]) ++ lg_sl (t.map (zrV G)) := by
        simp [lg_sl]
      have e2 : zexp (v :: t) = zexp1 v ++ zexp t := by simp [zexp]
      rw [e1, e2, List.length_append, List.length_append, ih]
      rcases v with z | n | o | u
      · simp [zrV, zexp1, Value.category]
      · simp [zrV, zexp1, Value.category]
      · cases o <;> simp [zrV, va_rf, zexp1, Value.category]
      · simp [zrV, zexp1, Value.category]
  have hm : ∀ (as : List zV) (i : Nat) (q : Nat × Value), (∃ v : zV, (zexp as)[q.1]? = some v ∧ v ≠ vU ∧ q.2 = zrV G v) → (q.1 + i, q.2) ∈ lv_args i (as.map (zrV G)) := by
    intro as
    induction as with
    | nil =>
      intro i q hx
      obtain ⟨v, h1, -⟩ := hx
      simp [zexp] at h1
    | cons v t ih =>
      intro i q hx
      obtain ⟨w, h1, h2, h3⟩ := hx
      have e2 : zexp (v :: t) = zexp1 v ++ zexp t := by simp [zexp]
      rw [e2] at h1
      have one : ∀ u : zV, zexp1 v = [v] → ¬ (zrV G v).category = 2 → (q.1 + i, q.2) ∈ lv_args i ((v :: t).map (zrV G)) := by
        intro _ hv hc
        rw [hv] at h1
        simp only [List.map_cons, lv_args, hc, if_false]
        rcases Nat.eq_zero_or_pos q.1 with z | z
        · rw [z] at h1
          have e := Option.some.inj h1
          refine List.mem_cons.mpr (Or.inl ?_)
          rw [z, h3, ← e]; simp
        · rw [List.getElem?_append_right (by show 1 ≤ q.1; omega)] at h1
          refine List.mem_cons.mpr (Or.inr ?_)
          have := ih (i + 1) (q.1 - 1, q.2) ⟨w, by simpa using h1, h2, h3⟩
          rw [show q.1 + i = q.1 - 1 + (i + 1) by omega]
          exact this
      rcases v with z | n | o | u
      · exact one vU rfl (by simp [zrV, Value.category])
      · have hc : (zrV G (vJ n)).category = 2 := rfl
        have h1 : (([vJ n, vU] : List zV) ++ zexp t)[q.1]? = some w := h1
        simp only [List.map_cons, lv_args]
        rw [if_pos hc]
        rcases (show q.1 = 0 ∨ q.1 = 1 ∨ 2 ≤ q.1 by omega) with z | z | z
        · rw [z] at h1
          have e := Option.some.inj h1
          refine List.mem_cons.mpr (Or.inl ?_)
          rw [z, h3, ← e]; simp
        · rw [z] at h1
          exact absurd (Option.some.inj h1).symm h2
        · rw [List.getElem?_append_right (by simpa using z)] at h1
          refine List.mem_cons.mpr (Or.inr ?_)
          have := ih (i + 2) (q.1 - 2, q.2) ⟨w, by simpa using h1, h2, h3⟩
          rw [show q.1 + i = q.1 - 2 + (i + 2) by omega]
          exact this
      · exact one vU rfl (by cases o <;> simp [zrV, va_rf, Value.category])
      · exact one vU rfl (by simp [zrV, Value.category])
  refine lv_mono (lv_entry (as.map (zrV G)) (n := zmx k) (by rw [hlen]; exact h)) (fun q hq => ?_)
  obtain ⟨v, h1, h2, h3⟩ := zlv_mem.mp hq
  have h4 : (zexp as)[q.1]? = some v := by
    unfold zloc at h1
    by_cases hi : q.1 < (zexp as).length
    · rwa [List.getElem?_append_left hi] at h1
    · rw [List.getElem?_append_right (by omega)] at h1
      exact absurd (List.eq_of_mem_replicate (List.mem_of_getElem? h1)) h2
  have := hm as 0 q ⟨v, h4, h2, h3⟩
  simpa using this
