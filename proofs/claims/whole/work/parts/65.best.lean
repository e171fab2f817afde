/-! The best way, found from the longest word on and from the shortest one on -/
section
variable (C : Nat → Bool) (en E : Nat → Int) (wo pc co : Int) (L : List yQ)
def ywk (u : Nat) : Int := (if C u = true then co else pc) + (L.getD (u - 1) yq0).1
def ywn (u : Nat) : Int := 1 + (L.getD (u - 1) yq0).2.1
def ywc (u : Nat) : Prop := 1 ≤ u ∧ u ≤ L.length ∧ (C u = true ∨ u = 1)
def ywl (t u : Nat) : Prop := ywk C pc co L t < ywk C pc co L u ∨ (ywk C pc co L t = ywk C pc co L u ∧ (ywn L t < ywn L u ∨ (ywn L t = ywn L u ∧ u ≤ t)))
def ymf : Nat → yQ → yQ
  | 0, q => q
  | m + 1, q => ymf m (if (C (m + 1) = true ∨ m + 1 = 1) ∧ (q.1 < 0 ∨ ywk C pc co L (m + 1) < q.1 ∨ (ywk C pc co L (m + 1) = q.1 ∧ ywn L (m + 1) < q.2.1)) then (ywk C pc co L (m + 1), ywn L (m + 1), m + 1, en (m + 1)) else q)
set_option maxRecDepth 100000 in
theorem yv_best (hC : ∀ s, C s = true ↔ (E s ≠ -6 ∧ E s ≠ wo)) (hL : 1 ≤ L.length) (hp : co ≤ pc) : ∀ s : Nat, (ywc C L (yv E wo pc co L (s + 1)).2.2.1 ∧ (yv E wo pc co L (s + 1)).2.2.1 ≤ s + 1) ∧ (yv E wo pc co L (s + 1)).1 = ywk C pc co L (yv E wo pc co L (s + 1)).2.2.1 ∧ (yv E wo pc co L (s + 1)).2.1 = ywn L (yv E wo pc co L (s + 1)).2.2.1 ∧ (yv E wo pc co L (s + 1)).2.2.2 = (if C (yv E wo pc co L (s + 1)).2.2.1 = true then E (yv E wo pc co L (s + 1)).2.2.1 else -6) ∧ ∀ u, ywc C L u → u ≤ s + 1 → ywl C pc co L (yv E wo pc co L (s + 1)).2.2.1 u := by
  intro s
  induction s with
  | zero =>
    have e : yv E wo pc co L 1 = if 0 < L.length ∧ E 1 ≠ -6 ∧ E 1 ≠ wo ∧ (co + (L.getD 0 yq0).1 < pc + (L.getD 0 yq0).1 ∨ (co + (L.getD 0 yq0).1 = pc + (L.getD 0 yq0).1 ∧ 1 + (L.getD 0 yq0).2.1 ≤ 1 + (L.getD 0 yq0).2.1)) then (co + (L.getD 0 yq0).1, 1 + (L.getD 0 yq0).2.1, 1, E 1) else (pc + (L.getD 0 yq0).1, 1 + (L.getD 0 yq0).2.1, 1, -6) := rfl
    have h1 := hC 1
    by_cases c : C 1 = true
    · have c1 := h1.1 c
      rw [e, if_pos ⟨by omega, c1.1, c1.2, by omega⟩]
      refine ⟨⟨⟨Nat.le_refl _, hL, Or.inl c⟩, Nat.le_refl _⟩, ?_, rfl, ?_, fun u hu hle => ?_⟩
      · unfold ywk; rw [if_pos c]; exact rfl
      · show E 1 = if C 1 = true then E 1 else -6
        rw [if_pos c]
      · obtain rfl : u = 1 := by have := hu.1; omega
        exact Or.inr ⟨rfl, Or.inr ⟨rfl, Nat.le_refl _⟩⟩
    · rw [e, if_neg (fun x => c (h1.2 ⟨x.2.1, x.2.2.1⟩))]
      refine ⟨⟨⟨Nat.le_refl _, hL, Or.inr rfl⟩, Nat.le_refl _⟩, ?_, rfl, ?_, fun u hu hle => ?_⟩
      · unfold ywk; rw [if_neg c]; exact rfl
      · show -6 = if C 1 = true then E 1 else -6
        rw [if_neg c]
      · obtain rfl : u = 1 := by have := hu.1; omega
        exact Or.inr ⟨rfl, Or.inr ⟨rfl, Nat.le_refl _⟩⟩
  | succ s ih =>
    have e : yv E wo pc co L (s + 1 + 1) = if s + 1 < L.length ∧ E (s + 1 + 1) ≠ -6 ∧ E (s + 1 + 1) ≠ wo ∧ (co + (L.getD (s + 1) yq0).1 < (yv E wo pc co L (s + 1)).1 ∨ (co + (L.getD (s + 1) yq0).1 = (yv E wo pc co L (s + 1)).1 ∧ 1 + (L.getD (s + 1) yq0).2.1 ≤ (yv E wo pc co L (s + 1)).2.1)) then (co + (L.getD (s + 1) yq0).1, 1 + (L.getD (s + 1) yq0).2.1, s + 1 + 1, E (s + 1 + 1)) else yv E wo pc co L (s + 1) := rfl
    rw [e]
    generalize yv E wo pc co L (s + 1) = q at ih ⊢
    obtain ⟨q1, q2, q3, q4⟩ := q
    dsimp only at ih ⊢
    obtain ⟨⟨i1, i2⟩, i3, i4, i5, i6⟩ := ih
    have h1 := hC (s + 1 + 1)
    have hn : ywn L (s + 1 + 1) = 1 + (L.getD (s + 1) yq0).2.1 := rfl
    have hk : C (s + 1 + 1) = true → ywk C pc co L (s + 1 + 1) = co + (L.getD (s + 1) yq0).1 := fun c => by
      unfold ywk; rw [if_pos c]; rfl
    split
    next x =>
      have c := h1.2 ⟨x.2.1, x.2.2.1⟩
      have hk := hk c
      refine ⟨⟨⟨by dsimp only; omega, by dsimp only; omega, Or.inl c⟩, Nat.le_refl _⟩, hk.symm, hn.symm, ?_, fun u hu hle => ?_⟩
      · dsimp only; rw [if_pos c]
      · dsimp only
        by_cases z : u = s + 1 + 1
        · subst z; exact Or.inr ⟨rfl, Or.inr ⟨rfl, Nat.le_refl _⟩⟩
        · have := i6 u hu (by omega)
          unfold ywl at this ⊢
          rw [hk, hn]
          omega
    next x =>
      refine ⟨⟨i1, by dsimp only; omega⟩, i3, i4, i5, fun u hu hle => ?_⟩
      by_cases z : u = s + 1 + 1
      · subst z
        rcases hu.2.2 with hc | hc
        · have c1 := h1.1 hc
          have hk := hk hc
          have hu2 := hu.2.1
          unfold ywl
          rw [hk, hn]
          dsimp only
          have : ¬ (co + (L.getD (s + 1) yq0).1 < q1 ∨ (co + (L.getD (s + 1) yq0).1 = q1 ∧ 1 + (L.getD (s + 1) yq0).2.1 ≤ q2)) := fun y => x ⟨by omega, c1.1, c1.2, y⟩
          omega
        · omega
      · exact i6 u hu (by omega)
set_option maxRecDepth 100000 in
theorem ymf_best (hL : 1 ≤ L.length) (h0 : ∀ u, ywc C L u → 0 ≤ ywk C pc co L u) : ∀ (m : Nat) (q : yQ), m ≤ L.length → ((q.1 < 0 ∧ ∀ u, ywc C L u → u ≤ m ∨ 3 < u) ∨ ((ywc C L q.2.2.1 ∧ m < q.2.2.1 ∧ q.2.2.1 ≤ 3) ∧ q.1 = ywk C pc co L q.2.2.1 ∧ q.2.1 = ywn L q.2.2.1 ∧ q.2.2.2 = en q.2.2.1 ∧ ∀ u, ywc C L u → m < u → u ≤ 3 → ywl C pc co L q.2.2.1 u)) → m ≤ 3 → ((ywc C L (ymf C en pc co L m q).2.2.1 ∧ (ymf C en pc co L m q).2.2.1 ≤ 3) ∧ (ymf C en pc co L m q).1 = ywk C pc co L (ymf C en pc co L m q).2.2.1 ∧ (ymf C en pc co L m q).2.1 = ywn L (ymf C en pc co L m q).2.2.1 ∧ (ymf C en pc co L m q).2.2.2 = en (ymf C en pc co L m q).2.2.1 ∧ ∀ u, ywc C L u → u ≤ 3 → ywl C pc co L (ymf C en pc co L m q).2.2.1 u) := by
  intro m
  induction m with
  | zero =>
    intro q hm h hm3
    rcases h with ⟨h1, h2⟩ | ⟨h1, h2, h3, h4, h5⟩
    · have := h2 1 ⟨Nat.le_refl _, hL, Or.inr rfl⟩
      omega
    · exact ⟨⟨h1.1, h1.2.2⟩, h2, h3, h4, fun u hu hle => h5 u hu (by have := hu.1; omega) hle⟩
  | succ m ih =>
    intro q hm h hm3
    unfold ymf
    refine ih _ (by omega) ?_ (by omega)
    obtain ⟨q1, q2, q3, q4⟩ := q
    dsimp only at h ⊢
    split
    next x =>
      have hc : ywc C L (m + 1) := ⟨by omega, hm, by rcases x.1 with y | y; exact Or.inl y; exact Or.inr (by omega)⟩
      refine Or.inr ⟨⟨hc, by dsimp only; omega, by dsimp only; omega⟩, rfl, rfl, rfl, fun u hu h1 h2 => ?_⟩
      dsimp only
      by_cases z : u = m + 1
      · subst z; exact Or.inr ⟨rfl, Or.inr ⟨rfl, Nat.le_refl _⟩⟩
      · rcases h with ⟨g1, g2⟩ | ⟨g1, g2, g3, g4, g5⟩
        · have := g2 u hu
          omega
        · have := g5 u hu (by omega) h2
          have x2 := x.2
          have k0 := h0 _ g1.1
          unfold ywl at this ⊢
          rw [← g2, ← g3] at this
          rw [← g2] at k0
          omega
    next x =>
      rcases h with ⟨g1, g2⟩ | ⟨g1, g2, g3, g4, g5⟩
      · refine Or.inl ⟨g1, fun u hu => ?_⟩
        by_cases z : u = m + 1
        · subst z
          exact absurd ⟨by rcases hu.2.2 with y | y; exact Or.inl y; exact Or.inr (by omega), Or.inl g1⟩ x
        · have := g2 u hu
          omega
      · refine Or.inr ⟨⟨g1.1, by dsimp only; omega, g1.2.2⟩, g2, g3, g4, fun u hu h1 h2 => ?_⟩
        dsimp only
        by_cases z : u = m + 1
        · subst z
          have x2 : ¬ (q1 < 0 ∨ ywk C pc co L (m + 1) < q1 ∨ (ywk C pc co L (m + 1) = q1 ∧ ywn L (m + 1) < q2)) := fun y => x ⟨by rcases hu.2.2 with w | w; exact Or.inl w; exact Or.inr (by omega), y⟩
          unfold ywl
          rw [← g2, ← g3]
          omega
        · exact g5 u hu (by omega) h2
set_option maxRecDepth 100000 in
theorem ymf_yv (hC : ∀ s, C s = true ↔ (E s ≠ -6 ∧ E s ≠ wo)) (hen : ∀ s, C s = false → en s = -6) (hL : 1 ≤ L.length) (hp : co ≤ pc) (h0 : ∀ u, ywc C L u → 0 ≤ ywk C pc co L u) (M : Nat) (hM : M = if 3 < L.length then 3 else L.length) (q : yQ) (hq : q.1 < 0) : (ymf C en pc co L M q).1 = (yv E wo pc co L 3).1 ∧ (ymf C en pc co L M q).2.1 = (yv E wo pc co L 3).2.1 ∧ (ymf C en pc co L M q).2.2.1 = (yv E wo pc co L 3).2.2.1 ∧ ((∀ s, 1 ≤ s → C s = true → en s = E s) → (ymf C en pc co L M q).2.2.2 = (yv E wo pc co L 3).2.2.2) := by
  have hM1 : M ≤ L.length ∧ M ≤ 3 ∧ (M = 3 ∨ M = L.length) := by split at hM <;> omega
  have b := ymf_best C en pc co L hL h0 M q hM1.1 (Or.inl ⟨hq, fun u hu => by have := hu.2.1; omega⟩) hM1.2.1
  have a := yv_best C E wo pc co L hC hL hp 2
  have a : (ywc C L (yv E wo pc co L 3).2.2.1 ∧ (yv E wo pc co L 3).2.2.1 ≤ 3) ∧ (yv E wo pc co L 3).1 = ywk C pc co L (yv E wo pc co L 3).2.2.1 ∧ (yv E wo pc co L 3).2.1 = ywn L (yv E wo pc co L 3).2.2.1 ∧ (yv E wo pc co L 3).2.2.2 = (if C (yv E wo pc co L 3).2.2.1 = true then E (yv E wo pc co L 3).2.2.1 else -6) ∧ ∀ u, ywc C L u → u ≤ 3 → ywl C pc co L (yv E wo pc co L 3).2.2.1 u := a
  generalize ymf C en pc co L M q = r at *
  generalize yv E wo pc co L 3 = v at *
  obtain ⟨⟨b1, b2⟩, b3, b4, b5, b6⟩ := b
  obtain ⟨⟨a1, a2⟩, a3, a4, a5, a6⟩ := a
  have x := b6 _ a1 a2
  have y := a6 _ b1 b2
  unfold ywl at x y
  have e : r.2.2.1 = v.2.2.1 := by omega
  refine ⟨by rw [b3, a3, e], by rw [b4, a4, e], e, fun hE => ?_⟩
  rw [b5, a5, e]
  by_cases c : C v.2.2.1 = true
  · rw [if_pos c]; exact hE _ a1.1 c
  · rw [if_neg c]; exact hen _ (Bool.eq_false_iff.2 c)
end
