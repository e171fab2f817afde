/-! A logic over the small machine -/
section
variable {R R' : Type} (Rel : R → R' → Prop) {bad : R} {bad' : R'} (hb : Rel bad bad')
theorem zkI_rel {v : Option zV} {k : Int → R} {k' : Int → R'} (hb : Rel bad bad') (h : ∀ z, Rel (k z) (k' z)) : Rel (zkI bad v k) (zkI bad' v k') := by
  unfold zkI; split
  · exact h _
  · exact hb
theorem zkJ_rel {v : Option zV} {k : Nat → R} {k' : Nat → R'} (hb : Rel bad bad') (h : ∀ z, Rel (k z) (k' z)) : Rel (zkJ bad v k) (zkJ bad' v k') := by
  unfold zkJ; split
  · exact h _
  · exact hb
theorem zkP_rel {v : Option zV} {k : Option Nat → R} {k' : Option Nat → R'} (hb : Rel bad bad') (h : ∀ z, Rel (k z) (k' z)) : Rel (zkP bad v k) (zkP bad' v k') := by
  unfold zkP; split
  · exact h _
  · exact hb
theorem zpop_rel {st : List zV} {k : zV → List zV → R} {k' : zV → List zV → R'} (hb : Rel bad bad') (h : ∀ v r, Rel (k v r) (k' v r)) : Rel (zpop bad st k) (zpop bad' st k') := by
  unfold zpop; split
  · exact h _ _
  · exact hb
theorem zpI_rel {st : List zV} {k : Int → List zV → R} {k' : Int → List zV → R'} (hb : Rel bad bad') (h : ∀ v r, Rel (k v r) (k' v r)) : Rel (zpI bad st k) (zpI bad' st k') := zpop_rel Rel hb fun _ r => zkI_rel Rel hb fun z => h z r
theorem zpJ_rel {st : List zV} {k : Nat → List zV → R} {k' : Nat → List zV → R'} (hb : Rel bad bad') (h : ∀ v r, Rel (k v r) (k' v r)) : Rel (zpJ bad st k) (zpJ bad' st k') := zpop_rel Rel hb fun _ r => zkJ_rel Rel hb fun z => h z r
theorem zpP_rel {st : List zV} {k : Option Nat → List zV → R} {k' : Option Nat → List zV → R'} (hb : Rel bad bad') (h : ∀ v r, Rel (k v r) (k' v r)) : Rel (zpP bad st k) (zpP bad' st k') := zpop_rel Rel hb fun _ r => zkP_rel Rel hb fun z => h z r
theorem zpR_rel {st : List zV} {k : Nat → List zV → R} {k' : Nat → List zV → R'} (hb : Rel bad bad') (h : ∀ v r, Rel (k v r) (k' v r)) : Rel (zpR bad st k) (zpR bad' st k') := zpP_rel Rel hb fun o r => by
  cases o with
  | none => exact hb
  | some a => exact h a r
theorem zhI_rel {c : Option zE} {k : Nat → (Nat → Int) → R} {k' : Nat → (Nat → Int) → R'} (hb : Rel bad bad') (h : ∀ n f, Rel (k n f) (k' n f)) : Rel (zhI bad c k) (zhI bad' c k') := by
  unfold zhI; split
  · exact h _ _
  · exact hb
theorem zhZ_rel {c : Option zE} {k : Nat → (Nat → Int) → R} {k' : Nat → (Nat → Int) → R'} (hb : Rel bad bad') (h : ∀ n f, Rel (k n f) (k' n f)) : Rel (zhZ bad c k) (zhZ bad' c k') := by
  unfold zhZ; split
  · exact h _ _
  · exact hb
theorem zhJ_rel {c : Option zE} {k : Nat → (Nat → Nat) → R} {k' : Nat → (Nat → Nat) → R'} (hb : Rel bad bad') (h : ∀ n f, Rel (k n f) (k' n f)) : Rel (zhJ bad c k) (zhJ bad' c k') := by
  unfold zhJ; split
  · exact h _ _
  · exact hb
theorem zhQ_rel {c : Option zE} {k : Nat → (Nat → Option Nat) → R} {k' : Nat → (Nat → Option Nat) → R'} (hb : Rel bad bad') (h : ∀ n f, Rel (k n f) (k' n f)) : Rel (zhQ bad c k) (zhQ bad' c k') := by
  unfold zhQ; split
  · exact h _ _
  · exact hb
theorem zhA_rel {c : Option zE} {k : Nat → zA → R} {k' : Nat → zA → R'} (hb : Rel bad bad') (h : ∀ n f, Rel (k n f) (k' n f)) : Rel (zhA bad c k) (zhA bad' c k') := by
  unfold zhA; split
  · exact h _ _
  · exact hb
theorem zhO_rel {c : Option zE} {k : Nat → List zV → R} {k' : Nat → List zV → R'} (hb : Rel bad bad') (h : ∀ n f, Rel (k n f) (k' n f)) : Rel (zhO bad c k) (zhO bad' c k') := by
  unfold zhO; split
  · exact h _ _
  · exact hb
theorem zif_rel {c : Prop} [Decidable c] {a b : R} {a' b' : R'} (h1 : Rel a a') (h2 : Rel b b') : Rel (if c then a else b) (if c then a' else b') := by
  split
  · exact h1
  · exact h2
theorem zbr_rel {c : Jvm.ClassFile.Cond} {x y : Int} {a b : R} {a' b' : R'} (h1 : Rel a a') (h2 : Rel b b') : Rel (zbr c x y a b) (zbr c x y a' b') := by
  cases c <;> (unfold zbr; dsimp only; split <;> assumption)
variable {ret : Option zV → zH → R} {ret' : Option zV → zH → R'} {call : Nat → List zV → zH → (Option zV → zH → R) → R} {call' : Nat → List zV → zH → (Option zV → zH → R') → R'} {go : Nat → List zV → List zV → zH → R} {go' : Nat → List zV → List zV → zH → R'}
set_option maxHeartbeats 4000000 in
theorem zstep_rel (hb : Rel bad bad') (hr : ∀ v h, Rel (ret v h) (ret' v h)) (hg : ∀ pc ls st h, Rel (go pc ls st h) (go' pc ls st h)) (hc : ∀ k as h kont kont', (∀ v h, Rel (kont v h) (kont' v h)) → Rel (call k as h kont) (call' k as h kont')) (pc len : Nat) (i : Instr) (ls st : List zV) (h : zH) :
    Rel (zstep bad ret call go pc len i ls st h) (zstep bad' ret' call' go' pc len i ls st h) := by
  cases i <;> (unfold zstep; dsimp only) <;> (repeat' first
    | exact hb
    | exact hg _ _ _ _
    | exact hr _ _
    | exact hc _ _ _ _ _ (fun v h1 => hg _ _ _ _)
    | (refine zkI_rel Rel hb (fun _ => ?_))
    | (refine zkJ_rel Rel hb (fun _ => ?_))
    | (refine zkP_rel Rel hb (fun _ => ?_))
    | (refine zpI_rel Rel hb (fun _ _ => ?_))
    | (refine zpJ_rel Rel hb (fun _ _ => ?_))
    | (refine zpP_rel Rel hb (fun _ _ => ?_))
    | (refine zpR_rel Rel hb (fun _ _ => ?_))
    | (refine zpop_rel Rel hb (fun _ _ => ?_))
    | (refine zhI_rel Rel hb (fun _ _ => ?_))
    | (refine zhZ_rel Rel hb (fun _ _ => ?_))
    | (refine zhJ_rel Rel hb (fun _ _ => ?_))
    | (refine zhQ_rel Rel hb (fun _ _ => ?_))
    | (refine zhA_rel Rel hb (fun _ _ => ?_))
    | (refine zhO_rel Rel hb (fun _ _ => ?_))
    | (refine zbr_rel Rel ?_ ?_)
    | (refine zif_rel Rel ?_ ?_)
    | (unfold zrcv; split)
    | (unfold zrcI; split)
    | split)
end
/-- the runs of all lengths at once -/
def zcal (n : Nat) (k' : Nat) (as : List zV) (h : zH) (kont : Option zV → zH → Option (Option zV × zH)) : Option (Option zV × zH) := if (zexp as).length ≤ zmx k' then (match zrun n k' 0 (zloc k' as) [] h with
        | some (r, h1) => kont r h1
        | none => none) else none
theorem zrun_succ (n k pc : Nat) (ls st : List zV) (h : zH) : zrun (n + 1) k pc ls st h = match zat k pc with
    | none => none
    | some (i, len) => zstep none (fun v h => some (v, h)) (zcal n) (fun pc ls st h => zrun n k pc ls st h) pc len i ls st h := rfl
theorem zrun_up : ∀ (n k pc : Nat) (ls st : List zV) (h : zH) (x : Option zV × zH), zrun n k pc ls st h = some x → zrun (n + 1) k pc ls st h = some x := by
  intro n
  induction n with
  | zero => intro k pc ls st h x he; cases he
  | succ n ih =>
    intro k pc ls st h x he
    rw [zrun_succ] at he ⊢
    split at he
    · cases he
    next i len hat =>
      have := zstep_rel (Rel := fun (a b : Option (Option zV × zH)) => ∀ x, a = some x → b = some x) (bad := none) (bad' := none) (ret := fun v h => some (v, h)) (ret' := fun v h => some (v, h)) (call := zcal n) (call' := zcal (n + 1)) (go := fun pc ls st h => zrun n k pc ls st h) (go' := fun pc ls st h => zrun (n + 1) k pc ls st h)
        (fun x h => h) (fun v h x hx => hx) (fun pc ls st h x hx => ih _ _ _ _ _ _ hx) (fun j as h kont kont' hk x hx => by
          unfold zcal at hx ⊢
          obtain ⟨h1, h2⟩ := zif_inv hx
          rw [if_pos h1]
          split at h2
          next r h1' hr =>
            rw [ih _ _ _ _ _ _ hr]
            exact hk _ _ _ h2
          · cases h2) pc len i ls st h x he
      exact this
theorem zrun_le {n m k pc : Nat} {ls st : List zV} {h : zH} {x : Option zV × zH} (hnm : n ≤ m) (he : zrun n k pc ls st h = some x) : zrun m k pc ls st h = some x := by
  induction m with
  | zero => rw [Nat.le_zero.mp hnm] at he; exact he
  | succ m ih =>
    rcases Nat.lt_or_ge m n with h1 | h1
    · rw [show m + 1 = n by omega]; exact he
    · exact zrun_up _ _ _ _ _ _ _ (ih h1)
/-- from here a method comes to an end with Q -/
def Go (k pc : Nat) (ls st : List zV) (h : zH) (Q : Option zV → zH → Prop) : Prop := ∃ (n : Nat) (r : Option zV) (h' : zH), zrun n k pc ls st h = some (r, h') ∧ Q r h'
/-- a call of a method -/
def Ca (j : Nat) (as : List zV) (h : zH) (Q : Option zV → zH → Prop) : Prop := (zexp as).length ≤ zmx j ∧ Go j 0 (zloc j as) [] h Q
abbrev zE1 (a : Nat → Option (Option zV × zH)) : Prop := ∀ n x, a n = some x → a (n + 1) = some x
theorem zE1.le {a : Nat → Option (Option zV × zH)} (h : zE1 a) {n m : Nat} (hnm : n ≤ m) {x : Option zV × zH} (he : a n = some x) : a m = some x := by
  induction m with
  | zero => rw [Nat.le_zero.mp hnm] at he; exact he
  | succ m ih =>
    rcases Nat.lt_or_ge m n with h1 | h1
    · rw [show m + 1 = n by omega]; exact he
    · exact h _ _ (ih h1)
theorem Go_eq (k pc : Nat) (ls st : List zV) (h : zH) (Q : Option zV → zH → Prop) : Go k pc ls st h Q ↔ match zat k pc with
    | none => False
    | some (i, len) => zstep False Q Ca (fun pc ls st h => Go k pc ls st h Q) pc len i ls st h := by
  have h0 : Go k pc ls st h Q ↔ ∃ (n : Nat) (r : Option zV) (h' : zH), zrun (n + 1) k pc ls st h = some (r, h') ∧ Q r h' := by
    constructor
    · rintro ⟨n, r, h', h1, h2⟩
      exact ⟨n, r, h', zrun_up _ _ _ _ _ _ _ h1, h2⟩
    · rintro ⟨n, r, h', h1, h2⟩
      exact ⟨n + 1, r, h', h1, h2⟩
  rw [h0]
  cases hat : zat k pc with
  | none =>
    constructor
    · rintro ⟨n, r, h', h1, h2⟩
      rw [zrun_succ, hat] at h1
      cases h1
    · intro hf; exact hf.elim
  | some q =>
    obtain ⟨i, len⟩ := q
    dsimp only
    have key := zstep_rel (Rel := fun (a : Nat → Option (Option zV × zH)) (P : Prop) => zE1 a ∧ ((∃ (n : Nat) (r : Option zV) (h' : zH), a n = some (r, h') ∧ Q r h') ↔ P)) (bad := fun _ => none) (bad' := False) (ret := fun v h _ => some (v, h)) (ret' := Q)
      (call := fun j as h kont n => if (zexp as).length ≤ zmx j then (match zrun n j 0 (zloc j as) [] h with
        | some (r, h1) => kont r h1 n
        | none => none) else none) (call' := Ca) (go := fun pc ls st h n => zrun n k pc ls st h) (go' := fun pc ls st h => Go k pc ls st h Q)
      ⟨fun n x hx => hx, by constructor; · rintro ⟨_, _, _, h1, _⟩; cases h1
                            · intro hf; exact hf.elim⟩
      (fun v h => ⟨fun n x hx => hx, by
        constructor
        · rintro ⟨_, _, _, h1, h2⟩; cases h1; exact h2
        · intro h1; exact ⟨0, v, h, rfl, h1⟩⟩)
      (fun pc ls st h => ⟨fun n x hx => zrun_up _ _ _ _ _ _ _ hx, Iff.rfl⟩)
      (fun j as h kont kont' hk => by
        refine ⟨fun n x hx => ?_, ?_⟩
        · obtain ⟨h1, h2⟩ := zif_inv hx
          refine (if_pos h1).trans ?_
          split at h2
          next r h1' hr =>
            rw [zrun_up _ _ _ _ _ _ _ hr]
            exact (hk _ _).1 _ _ h2
          · cases h2
        · constructor
          · rintro ⟨n, r, h', h1, h2⟩
            obtain ⟨g1, g2⟩ := zif_inv h1
            split at g2
            next r1 h1' hr => exact ⟨g1, n, r1, h1', hr, (hk r1 h1').2.mp ⟨n, r, h', g2, h2⟩⟩
            · cases g2
          · rintro ⟨g1, n1, r1, h1', hr, hk1⟩
            obtain ⟨n2, r, h', g2, g3⟩ := (hk r1 h1').2.mpr hk1
            refine ⟨max n1 n2, r, h', ?_, g3⟩
            rw [if_pos g1, zrun_le (Nat.le_max_left n1 n2) hr]
            exact (hk r1 h1').1.le (Nat.le_max_right n1 n2) g2) pc len i ls st h
    rw [← key.2]
    have e : ∀ n, zrun (n + 1) k pc ls st h = zstep (fun _ => none) (fun v h _ => some (v, h)) (fun j as h kont n => if (zexp as).length ≤ zmx j then (match zrun n j 0 (zloc j as) [] h with
        | some (r, h1) => kont r h1 n
        | none => none) else none) (fun pc ls st h n => zrun n k pc ls st h) pc len i ls st h n := by
      intro n
      rw [zrun_succ, hat]
      dsimp only
      exact (zstep_rel (Rel := fun (a : Nat → Option (Option zV × zH)) (b : Option (Option zV × zH)) => b = a n) (bad := fun _ => none) (bad' := none) (ret := fun v h _ => some (v, h)) (ret' := fun v h => some (v, h)) (call := fun j as h kont n => if (zexp as).length ≤ zmx j then (match zrun n j 0 (zloc j as) [] h with
        | some (r, h1) => kont r h1 n
        | none => none) else none) (call' := zcal n) (go := fun pc ls st h n => zrun n k pc ls st h) (go' := fun pc ls st h => zrun n k pc ls st h) rfl (fun _ _ => rfl) (fun _ _ _ _ => rfl) (fun j as h kont kont' hk => by
          unfold zcal
          split
          · split
            · exact hk _ _
            · rfl
          · rfl) pc len i ls st h)
    constructor
    · rintro ⟨n, r, h', h1, h2⟩
      exact ⟨n, r, h', by rw [← e]; exact h1, h2⟩
    · rintro ⟨n, r, h', h1, h2⟩
      exact ⟨n, r, h', by rw [e]; exact h1, h2⟩
/-- so many steps on, but not past the places S -/
def Gs (S : Nat → Bool) (k : Nat) (Q : Option zV → zH → Prop) : Nat → Nat → List zV → List zV → zH → Prop
  | 0, pc, ls, st, h => Go k pc ls st h Q
  | f + 1, pc, ls, st, h => if S pc = true then Go k pc ls st h Q else match zat k pc with
    | none => False
    | some (i, len) => zstep False Q Ca (fun pc ls st h => Gs S k Q f pc ls st h) pc len i ls st h
theorem Gs_eq (S : Nat → Bool) (k : Nat) (Q : Option zV → zH → Prop) : ∀ (f pc : Nat) (ls st : List zV) (h : zH), Gs S k Q f pc ls st h ↔ Go k pc ls st h Q := by
  intro f
  induction f with
  | zero => intro pc ls st h; exact Iff.rfl
  | succ f ih =>
    intro pc ls st h
    unfold Gs
    split
    · exact Iff.rfl
    · rw [Go_eq]
      split
      · exact Iff.rfl
      next i len hat =>
        have := zstep_rel (Rel := fun (a b : Prop) => a ↔ b) (bad := False) (bad' := False) (ret := Q) (ret' := Q) (call := Ca) (call' := Ca) (go := fun pc ls st h => Gs S k Q f pc ls st h) (go' := fun pc ls st h => Go k pc ls st h Q) Iff.rfl (fun _ _ => Iff.rfl) (fun pc ls st h => ih pc ls st h) (fun j as h kont kont' hk => by
          have : kont = kont' := funext fun v => funext fun h => propext (hk v h)
          rw [this]) pc len i ls st h
        exact this
/-- one step, then on -/
theorem Go_from (S : Nat → Bool) (f : Nat) {k pc : Nat} {ls st : List zV} {h : zH} {Q : Option zV → zH → Prop} (hs : match zat k pc with
    | none => False
    | some (i, len) => zstep False Q Ca (fun pc ls st h => Gs S k Q f pc ls st h) pc len i ls st h) : Go k pc ls st h Q := by
  have := (Gs_eq (fun _ => false) k Q 1 pc ls st h)
  rw [Go_eq]
  split at hs
  · exact hs
  next i len hat =>
    have := zstep_rel (Rel := fun (a b : Prop) => a ↔ b) (bad := False) (bad' := False) (ret := Q) (ret' := Q) (call := Ca) (call' := Ca) (go := fun pc ls st h => Gs S k Q f pc ls st h) (go' := fun pc ls st h => Go k pc ls st h Q) Iff.rfl (fun _ _ => Iff.rfl) (fun pc ls st h => Gs_eq S k Q f pc ls st h) (fun j as h kont kont' hk => by
          have : kont = kont' := funext fun v => funext fun h => propext (hk v h)
          rw [this]) pc len i ls st h
    exact this.mp hs
theorem Go.mono {k pc : Nat} {ls st : List zV} {h : zH} {Q Q' : Option zV → zH → Prop} (hg : Go k pc ls st h Q) (hq : ∀ r h', Q r h' → Q' r h') : Go k pc ls st h Q' := by
  obtain ⟨n, r, h', h1, h2⟩ := hg
  exact ⟨n, r, h', h1, hq _ _ h2⟩
theorem Ca.mono {j : Nat} {as : List zV} {h : zH} {Q Q' : Option zV → zH → Prop} (hg : Ca j as h Q) (hq : ∀ r h', Q r h' → Q' r h') : Ca j as h Q' := ⟨hg.1, hg.2.mono hq⟩
/-- a method whose answer and heap are known -/
theorem Ca.iff {j : Nat} {as : List zV} {h : zH} {r0 : Option zV} {h0 : zH} (hg : Ca j as h (fun r h' => r = r0 ∧ h' = h0)) (Q : Option zV → zH → Prop) : Ca j as h Q ↔ Q r0 h0 := by
  obtain ⟨hl, n, r, h', h1, rfl, rfl⟩ := hg
  constructor
  · rintro ⟨-, m, r', h'', g1, g2⟩
    have a := zrun_le (Nat.le_max_left n m) h1
    have b := zrun_le (Nat.le_max_right n m) g1
    rw [a] at b
    cases b
    exact g2
  · intro hq
    exact ⟨hl, n, r, h', h1, hq⟩
