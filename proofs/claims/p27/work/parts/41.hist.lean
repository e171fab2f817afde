/-! States kept: the history's and the slots' -/
abbrev yG : Type := Nat → Option yS
def ycn (q : Nat → Option Nat) : Nat → Nat
  | 0 => 0
  | n + 1 => ycn q n + (if q n = none then 0 else 1)
set_option maxRecDepth 100000 in
theorem ycn_up (q : Nat → Option Nat) (p x : Nat) (hp : q p = none) : ∀ n, ycn (va_up q p (some x)) n = ycn q n + (if p < n then 1 else 0) := by
  intro n
  induction n with
  | zero => rfl
  | succ n ih =>
    unfold ycn
    rw [ih, y_up]
    by_cases c : n = p
    · subst c
      rw [if_pos rfl, hp, if_neg (show ¬ (some x : Option Nat) = none by simp), if_neg (Nat.lt_irrefl n), if_pos (rfl : (none : Option Nat) = none), if_pos (Nat.lt_succ_self n)]
    · rw [if_neg c]
      by_cases c2 : p < n
      · rw [if_pos c2, if_pos (show p < n + 1 by omega)]; omega
      · rw [if_neg c2, if_neg (show ¬ p < n + 1 by omega)]; omega
set_option maxRecDepth 100000 in
theorem ycn_le (q : Nat → Option Nat) : ∀ n, ycn q n ≤ n := by
  intro n
  induction n with
  | zero => exact Nat.le_refl _
  | succ n ih =>
    unfold ycn
    split
    all_goals omega
def yad (o : Option Nat) : Option Nat := o.map fun j => 15 * j + 39
def HB (h : zH) (P : Nat → Nat → Option Nat) (q : Nat → Option Nat) (N : Nat) (G : yG) : Prop :=
  (h.length = 39 + 15 * N ∧ N = ycn q 8) ∧ (∀ p, p < 8 → ∀ j, q p = some j → j < N ∧ ∀ p', p' < 8 → q p' = some j → p' = p) ∧ (∀ j, j < N → ∃ F J V, zBk h (15 * j) F J V) ∧ ((∀ i, i < 6 → P 20 i = yad (q i)) ∧ ∀ i, i < 2 → P 21 i = yad (q (6 + i))) ∧ ∀ p, p < 8 → ∀ T, G p = some T → ∃ j F J V, q p = some j ∧ zBk h (15 * j) F J V ∧ rS F J V T
section
variable {h h2 : zH} {F F1 F2 : Nat → Nat → Int} {J J1 J2 : Nat → Nat → Nat} {V V1 V2 : Nat → Int} {P P2 : Nat → Nat → Option Nat} {d : Nat} {S : yS} {q : Nat → Option Nat} {N : Nat} {G G2 : yG}
set_option maxRecDepth 100000 in
theorem HB_fr (b : HB h P q N G) (e : ∀ t, 39 ≤ t → h2[t]? = h[t]?) (el : h2.length = h.length) (e20 : P2 20 = P 20) (e21 : P2 21 = P 21) (eg : ∀ p, p < 8 → ∀ T, G2 p = some T → G p = some T) : HB h2 P2 q N G2 := by
  obtain ⟨b1, b2, b3, b4, b5⟩ := b
  refine ⟨⟨el.trans b1.1, b1.2⟩, b2, fun j hj => ?_, ?_, fun p hp T hT => ?_⟩
  · obtain ⟨F, J, V, x⟩ := b3 j hj
    exact ⟨F, J, V, zBk_fr x fun t ht _ => e t (by omega)⟩
  · rw [e20, e21]; exact b4
  · obtain ⟨j, F, J, V, x, y, z⟩ := b5 p hp T (eg p hp T hT)
    exact ⟨j, F, J, V, x, zBk_fr y fun t ht _ => e t (by omega), z⟩
set_option maxRecDepth 100000 in
theorem HB_put (b : HB h P q N G) {p j : Nat} (hp : p < 8) (hq : q p = some j) (b2 : zBk h2 (15 * j) F2 J2 V2) (r : rS F2 J2 V2 S) (e : ∀ t, t < 15 * j + 39 ∨ 15 * j + 54 ≤ t → h2[t]? = h[t]?) (el : h2.length = h.length) : HB h2 P q N (va_up G p (some S)) := by
  obtain ⟨b1, hb2, b3, b4, b5⟩ := b
  refine ⟨⟨el.trans b1.1, b1.2⟩, hb2, fun i hi => ?_, b4, fun p' hp' T hT => ?_⟩
  · by_cases c : i = j
    · subst c
      exact ⟨_, _, _, b2⟩
    · obtain ⟨F, J, V, x⟩ := b3 i hi
      exact ⟨F, J, V, zBk_fr x fun t ht ht2 => e t (by omega)⟩
  · rw [y_up] at hT
    by_cases c : p' = p
    · rw [if_pos c] at hT
      cases hT
      subst c
      exact ⟨j, _, _, _, hq, b2, r⟩
    · rw [if_neg c] at hT
      obtain ⟨i, F, J, V, x, y, z⟩ := b5 p' hp' T hT
      have hij : i ≠ j := fun e => c ((hb2 p hp j hq).2 p' hp' (by rw [x, e]))
      exact ⟨i, F, J, V, x, zBk_fr y fun t ht ht2 => e t (by omega), z⟩
/-- the fifteen cells of a new state -/
def ynb (a : Nat) : zH := [oO 6 [vR (a + 1), vR (a + 2), vR (a + 5)], aI 3 yini, oO 0 [vR (a + 3), vR (a + 4), vI 0], aI 16 fun _ => 0, aJ 48 fun _ => 0, oO 7 [vR (a + 6), vR (a + 8), vR (a + 9), vR (a + 10), vR (a + 11), vR (a + 12), vR (a + 13), vR (a + 14), vI 0], oO 8 [vR (a + 7), vI 0], aJ 12 fun _ => 0, aI 12 fun _ => 0, aI 12 fun _ => 0, aI 12 fun _ => 0, aI 12 fun _ => 0, aI 12 fun _ => 0, aI 156 fun _ => 0, aI 156 fun _ => 0]
def yF0 : Nat → Nat → Int := uF (fun _ _ => 0) 5 yini
set_option maxRecDepth 100000 in
theorem ynb_get (h : zH) (d : Nat) (hl : h.length = d + 39) (l : zH) (i : Nat) : (h ++ l)[d + (i + 39)]? = l[i]? := by
  rw [List.getElem?_append_right (by omega)]
  exact congrArg (fun i => l[i]?) (by omega)
set_option maxRecDepth 100000 in
theorem ynb_bk {h : zH} {d : Nat} (hl : h.length = d + 39) : zBk (h ++ ynb (d + 39)) d yF0 (fun _ _ => 0) (fun _ => 0) := by
  refine ⟨?_, ?_, ?_, ?_, ?_, ?_, ?_, ?_, ?_, ?_, ?_, ?_, ?_, ?_, ?_⟩
  · exact ynb_get h d hl _ 0
  · exact ynb_get h d hl _ 1
  · exact ynb_get h d hl _ 2
  · exact ynb_get h d hl _ 3
  · exact ynb_get h d hl _ 4
  · exact ynb_get h d hl _ 5
  · exact ynb_get h d hl _ 6
  · exact ynb_get h d hl _ 7
  · exact ynb_get h d hl _ 8
  · exact ynb_get h d hl _ 9
  · exact ynb_get h d hl _ 10
  · exact ynb_get h d hl _ 11
  · exact ynb_get h d hl _ 12
  · exact ynb_get h d hl _ 13
  · exact ynb_get h d hl _ 14
set_option maxRecDepth 100000 in
theorem HB_new (b : HB h P q N G) {p : Nat} (hp : p < 8) (hq : q p = none) (e : ∀ t, 39 ≤ t → h2[t]? = (h ++ ynb (15 * N + 39))[t]?) (el : h2.length = h.length + 15) (hP : (∀ i, i < 6 → P2 20 i = if i = p then some (15 * N + 39) else P 20 i) ∧ ∀ i, i < 2 → P2 21 i = if 6 + i = p then some (15 * N + 39) else P 21 i) : HB h2 P2 (va_up q p (some N)) (N + 1) G := by
  obtain ⟨b1, hb2, b3, b4, b5⟩ := b
  have old : ∀ j, j < N → ∀ F J V, zBk h (15 * j) F J V → zBk h2 (15 * j) F J V := fun j hj F J V x => zBk_fr x fun t ht ht2 => by
    rw [e t (by omega), List.getElem?_append_left (by omega)]
  refine ⟨⟨by omega, by rw [ycn_up q p N hq, if_pos hp]; omega⟩, fun p1 hp1 j hj => ?_, fun j hj => ?_, ⟨fun i hi => ?_, fun i hi => ?_⟩, fun p1 hp1 T hT => ?_⟩
  · rw [y_up] at hj
    by_cases c : p1 = p
    · rw [if_pos c] at hj
      cases hj
      refine ⟨by omega, fun p2 hp2 h2 => ?_⟩
      rw [y_up] at h2
      by_cases c2 : p2 = p
      · omega
      · rw [if_neg c2] at h2
        have := (hb2 p2 hp2 N h2).1
        omega
    · rw [if_neg c] at hj
      have x := hb2 p1 hp1 j hj
      refine ⟨by omega, fun p2 hp2 h2 => ?_⟩
      rw [y_up] at h2
      by_cases c2 : p2 = p
      · rw [if_pos c2] at h2
        cases h2
        omega
      · rw [if_neg c2] at h2
        exact x.2 p2 hp2 h2
  · by_cases c : j < N
    · obtain ⟨F, J, V, x⟩ := b3 j c
      exact ⟨F, J, V, old j c F J V x⟩
    · obtain rfl : j = N := by omega
      exact ⟨_, _, _, zBk_fr (ynb_bk (h := h) (d := 15 * j) (by omega)) fun t ht ht2 => e t (by omega)⟩
  · rw [hP.1 i hi, y_up]
    by_cases c : i = p
    · rw [if_pos c, if_pos c]; rfl
    · rw [if_neg c, if_neg c]; exact b4.1 i hi
  · rw [hP.2 i hi, y_up]
    by_cases c : 6 + i = p
    · rw [if_pos c, if_pos c]; rfl
    · rw [if_neg c, if_neg c]; exact b4.2 i hi
  · obtain ⟨j, F, J, V, x, y, z⟩ := b5 p1 hp1 T hT
    have c : p1 ≠ p := fun e => by rw [e, hq] at x; cases x
    exact ⟨j, F, J, V, by rw [y_up, if_neg c]; exact x, old j (hb2 p1 hp1 j x).1 F J V y, z⟩
end
