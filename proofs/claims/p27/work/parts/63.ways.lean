/-! The cheapest way: all ways tried, and the class's plan -/
def wco (c : Nat → Nat → Int) : Nat → List Nat → Int
  | _, [] => 0
  | i, s :: r => if c i s < 0 then -1 else if wco c (i + s) r < 0 then -1 else c i s + wco c (i + s) r
def lsp (n m : Nat) : Nat → Nat → Nat → List Nat
  | 0, _, _ => []
  | d + 1, k, fr => if k + 1 < n ∧ (m : Int) / 2 ^ k % 2 = 0 then lsp n m d (k + 1) fr else (k - fr + 1) :: lsp n m d (k + 1) (k + 1)
set_option maxRecDepth 100000 in
theorem wco_m (c : Nat → Nat → Int) : ∀ (l : List Nat) (i : Nat), -1 ≤ wco c i l := by
  intro l
  induction l with
  | nil => intro i; show (-1 : Int) ≤ 0; decide
  | cons s r ih =>
    intro i
    have e : wco c i (s :: r) = if c i s < 0 then -1 else if wco c (i + s) r < 0 then -1 else c i s + wco c (i + s) r := rfl
    rw [e]
    split
    · omega
    · split <;> omega
set_option maxRecDepth 100000 in
theorem lct_eq (c : Nat → Nat → Int) (n m : Nat) : ∀ (d k fr : Nat) (sum : Int), fr ≤ k → lct c n m d k fr sum = if wco c fr (lsp n m d k fr) < 0 then -1 else sum + wco c fr (lsp n m d k fr) := by
  intro d
  induction d with
  | zero =>
    intro k fr sum _
    show sum = if (0 : Int) < 0 then -1 else sum + 0
    rw [if_neg (by omega)]
    omega
  | succ d ih =>
    intro k fr sum hf
    have e1 : lct c n m (d + 1) k fr sum = if k + 1 < n ∧ (m : Int) / 2 ^ k % 2 = 0 then lct c n m d (k + 1) fr sum else if c fr (k - fr + 1) < 0 then -1 else lct c n m d (k + 1) (k + 1) (sum + c fr (k - fr + 1)) := rfl
    have e2 : lsp n m (d + 1) k fr = if k + 1 < n ∧ (m : Int) / 2 ^ k % 2 = 0 then lsp n m d (k + 1) fr else (k - fr + 1) :: lsp n m d (k + 1) (k + 1) := rfl
    rw [e1, e2]
    by_cases c1 : k + 1 < n ∧ (m : Int) / 2 ^ k % 2 = 0
    · rw [if_pos c1, if_pos c1]
      exact ih (k + 1) fr sum (by omega)
    · rw [if_neg c1, if_neg c1]
      have e3 : wco c fr ((k - fr + 1) :: lsp n m d (k + 1) (k + 1)) = if c fr (k - fr + 1) < 0 then -1 else if wco c (fr + (k - fr + 1)) (lsp n m d (k + 1) (k + 1)) < 0 then -1 else c fr (k - fr + 1) + wco c (fr + (k - fr + 1)) (lsp n m d (k + 1) (k + 1)) := rfl
      have e4 : fr + (k - fr + 1) = k + 1 := by omega
      rw [e3, e4, ih (k + 1) (k + 1) _ (Nat.le_refl _)]
      by_cases c2 : c fr (k - fr + 1) < 0
      · rw [if_pos c2, if_pos c2, if_pos (by omega)]
      · rw [if_neg c2, if_neg c2]
        by_cases c3 : wco c (k + 1) (lsp n m d (k + 1) (k + 1)) < 0
        · rw [if_pos c3, if_pos c3, if_pos (by omega)]
        · rw [if_neg c3, if_neg c3, if_neg (by omega)]
          omega
-- masks
def ltv (w b : Nat) : Int := zan (zan w (zxo w b)) (-(zxo w b))
def lgt : List Nat → List Nat → Bool
  | a :: r, b :: t => decide (b < a) || (decide (a = b) && lgt r t)
  | _, _ => false
set_option maxRecDepth 100000 in
theorem ltv_r : ∀ w b : Fin 8, 0 ≤ ltv w.val b.val ∧ ltv w.val b.val < 8 := by decide +kernel
set_option maxRecDepth 100000 in
theorem ltv_t : ∀ x y z : Fin 8, ltv x.val y.val = 0 → ltv y.val z.val = 0 → x.val ≠ y.val → y.val ≠ z.val → ltv x.val z.val = 0 ∧ x.val ≠ z.val := by decide +kernel
set_option maxRecDepth 100000 in
theorem ltv_o : ∀ x y : Fin 8, x.val ≠ y.val → ltv x.val y.val = 0 ∨ ltv y.val x.val = 0 := by decide +kernel
set_option maxRecDepth 100000 in
theorem ltv_a : ∀ x y : Fin 8, x.val ≠ y.val → ltv x.val y.val = 0 → ltv y.val x.val ≠ 0 := by decide +kernel
set_option maxRecDepth 100000 in
theorem lsp_1 : ∀ n : Fin 5, ∀ m : Fin 8, 1 ≤ n.val → m.val < 2 ^ (n.val - 1) → ((lsp n.val m.val n.val 0 0).length : Int) = ybt m.val + 1 ∧ (lsp n.val m.val n.val 0 0).sum = n.val ∧ ∀ s ∈ lsp n.val m.val n.val 0 0, 1 ≤ s := by decide +kernel
set_option maxRecDepth 100000 in
theorem lsp_2 : ∀ n : Fin 5, ∀ x y : Fin 8, 1 ≤ n.val → x.val < 2 ^ (n.val - 1) → y.val < 2 ^ (n.val - 1) → x.val ≠ y.val → lsp n.val x.val n.val 0 0 ≠ lsp n.val y.val n.val 0 0 ∧ ((lsp n.val x.val n.val 0 0).length = (lsp n.val y.val n.val 0 0).length → lgt (lsp n.val x.val n.val 0 0) (lsp n.val y.val n.val 0 0) = true → ltv x.val y.val = 0) := by decide +kernel
set_option maxRecDepth 100000 in
theorem lsp_31 : ∀ a : Fin 5, 1 ≤ a.val → ∃ m : Fin 8, m.val < 2 ^ (a.val - 1) ∧ lsp a.val m.val a.val 0 0 = [a.val] := by decide +kernel
set_option maxRecDepth 100000 in
theorem lsp_32 : ∀ a b : Fin 5, 1 ≤ a.val → 1 ≤ b.val → a.val + b.val ≤ 4 → ∃ m : Fin 8, m.val < 2 ^ (a.val + b.val - 1) ∧ lsp (a.val + b.val) m.val (a.val + b.val) 0 0 = [a.val, b.val] := by decide +kernel
set_option maxRecDepth 100000 in
theorem lsp_33 {a b d : Nat} (ha : 1 ≤ a) (hb : 1 ≤ b) (hd : 1 ≤ d) (hs : a + b + d ≤ 4) : ∃ m : Nat, m < 8 ∧ m < 2 ^ (a + b + d - 1) ∧ lsp (a + b + d) m (a + b + d) 0 0 = [a, b, d] := by
  rcases (show (a = 1 ∧ b = 1 ∧ d = 1) ∨ (a = 2 ∧ b = 1 ∧ d = 1) ∨ (a = 1 ∧ b = 2 ∧ d = 1) ∨ (a = 1 ∧ b = 1 ∧ d = 2) by omega) with ⟨rfl, rfl, rfl⟩ | ⟨rfl, rfl, rfl⟩ | ⟨rfl, rfl, rfl⟩ | ⟨rfl, rfl, rfl⟩
  · exact ⟨3, by decide +kernel⟩
  · exact ⟨6, by decide +kernel⟩
  · exact ⟨5, by decide +kernel⟩
  · exact ⟨3, by decide +kernel⟩
set_option maxRecDepth 100000 in
theorem lsp_34 : ∃ m : Fin 8, m.val < 2 ^ 3 ∧ lsp 4 m.val 4 0 0 = [1, 1, 1, 1] := by decide +kernel
set_option maxRecDepth 100000 in
theorem lsp_of {n : Nat} (h1 : 1 ≤ n) (h4 : n ≤ 4) : ∀ l : List Nat, (∀ s ∈ l, 1 ≤ s) → l.sum = n → ∃ m : Nat, m < 8 ∧ m < 2 ^ (n - 1) ∧ lsp n m n 0 0 = l := by
  intro l hp hs
  match l, hp, hs with
  | [], _, hs => simp at hs; omega
  | [a], hp, hs =>
    have ha := hp a (by simp)
    simp at hs
    obtain ⟨m, m1, m2⟩ := lsp_31 ⟨a, by omega⟩ ha
    subst hs
    exact ⟨m.val, m.isLt, m1, m2⟩
  | [a, b], hp, hs =>
    have ha := hp a (by simp)
    have hb := hp b (by simp)
    simp at hs
    obtain ⟨m, m1, m2⟩ := lsp_32 ⟨a, by omega⟩ ⟨b, by omega⟩ ha hb (by show a + b ≤ 4; omega)
    subst hs
    exact ⟨m.val, m.isLt, m1, m2⟩
  | [a, b, d], hp, hs =>
    have ha := hp a (by simp)
    have hb := hp b (by simp)
    have hd := hp d (by simp)
    simp at hs
    obtain ⟨m, m0, m1, m2⟩ := lsp_33 ha hb hd (by omega)
    have e : n = a + b + d := by omega
    rw [e]
    exact ⟨m, m0, m1, m2⟩
  | [a, b, d, e], hp, hs =>
    have ha := hp a (by simp)
    have hb := hp b (by simp)
    have hd := hp d (by simp)
    have he := hp e (by simp)
    simp at hs
    obtain rfl : a = 1 := by omega
    obtain rfl : b = 1 := by omega
    obtain rfl : d = 1 := by omega
    obtain rfl : e = 1 := by omega
    obtain rfl : n = 4 := by omega
    obtain ⟨m, m1, m2⟩ := lsp_34
    exact ⟨m.val, m.isLt, m1, m2⟩
  | a :: b :: d :: e :: f :: r, hp, hs =>
    have ha := hp a (by simp)
    have hb := hp b (by simp)
    have hd := hp d (by simp)
    have he := hp e (by simp)
    have hf := hp f (by simp)
    simp at hs
    omega
-- the best of the first so many ways
def lisb (K : Nat → Int) (w : Nat) (b l : Int) : Bool := if 0 ≤ b ∧ K w = l ∧ ybt w = ybt b.toNat then decide (ltv w b.toNat = 0) else decide (b < 0 ∨ K w < l ∨ (K w = l ∧ ybt w < ybt b.toNat))
def lbs (K : Nat → Int) : Nat → Int × Int
  | 0 => (-1, 0)
  | w + 1 => if K w < 0 then lbs K w else if lisb K w (lbs K w).1 (lbs K w).2 = true then ((w : Int), K w) else lbs K w
def lbt (K : Nat → Int) (x y : Nat) : Prop := K x < K y ∨ (K x = K y ∧ (ybt x < ybt y ∨ (ybt x = ybt y ∧ ltv x y = 0)))
set_option maxRecDepth 100000 in
theorem lbt_tr {K : Nat → Int} {x y z : Nat} (hx : x < 8) (hy : y < 8) (hz : z < 8) (n1 : x ≠ y) (n2 : y ≠ z) (h1 : lbt K x y) (h2 : lbt K y z) : lbt K x z := by
  have t := ltv_t ⟨x, hx⟩ ⟨y, hy⟩ ⟨z, hz⟩
  simp only at t
  unfold lbt at *
  rcases h1 with h1 | ⟨h1, h1' | ⟨h1', h1''⟩⟩ <;> rcases h2 with h2 | ⟨h2, h2' | ⟨h2', h2''⟩⟩
  · exact Or.inl (by omega)
  · exact Or.inl (by omega)
  · exact Or.inl (by omega)
  · exact Or.inl (by omega)
  · exact Or.inr ⟨by omega, Or.inl (by omega)⟩
  · exact Or.inr ⟨by omega, Or.inl (by omega)⟩
  · exact Or.inl (by omega)
  · exact Or.inr ⟨by omega, Or.inl (by omega)⟩
  · exact Or.inr ⟨by omega, Or.inr ⟨by omega, (t h1'' h2'' n1 n2).1⟩⟩
set_option maxRecDepth 100000 in
theorem lbs_best (K : Nat → Int) : ∀ w, w ≤ 8 → ((∀ m, m < w → K m < 0) ∧ lbs K w = (-1, 0)) ∨ ∃ b : Nat, b < w ∧ lbs K w = ((b : Int), K b) ∧ 0 ≤ K b ∧ ∀ m, m < w → 0 ≤ K m → m ≠ b → lbt K b m := by
  intro w
  induction w with
  | zero => intro _; exact Or.inl ⟨fun m hm => absurd hm (by omega), rfl⟩
  | succ w ih =>
    intro hw
    have ih := ih (by omega)
    have e : lbs K (w + 1) = if K w < 0 then lbs K w else if lisb K w (lbs K w).1 (lbs K w).2 = true then ((w : Int), K w) else lbs K w := rfl
    rw [e]
    by_cases c1 : K w < 0
    · rw [if_pos c1]
      rcases ih with ⟨h1, h2⟩ | ⟨b, h1, h2, h3, h4⟩
      · refine Or.inl ⟨fun m hm => ?_, h2⟩
        rcases Nat.lt_or_ge m w with g | g
        · exact h1 m g
        · obtain rfl : m = w := by omega
          exact c1
      · refine Or.inr ⟨b, by omega, h2, h3, fun m hm hK hn => ?_⟩
        rcases Nat.lt_or_ge m w with g | g
        · exact h4 m g hK hn
        · obtain rfl : m = w := by omega
          omega
    · rw [if_neg c1]
      rcases ih with ⟨h1, h2⟩ | ⟨b, h1, h2, h3, h4⟩
      · have c2 : lisb K w (lbs K w).1 (lbs K w).2 = true := by
          rw [h2]
          unfold lisb
          rw [if_neg (fun z => absurd z.1 (by decide))]
          exact decide_eq_true (Or.inl (by decide))
        rw [if_pos c2]
        refine Or.inr ⟨w, by omega, rfl, by omega, fun m hm hK hn => ?_⟩
        have := h1 m (by omega)
        omega
      · have hb8 : b < 8 := by omega
        have hw8 : w < 8 := by omega
        have tb : ((b : Int)).toNat = b := Int.toNat_natCast b
        by_cases c2 : lisb K w (lbs K w).1 (lbs K w).2 = true
        · rw [if_pos c2]
          rw [h2] at c2
          have c3 : lbt K w b := by
            unfold lisb at c2
            simp only [tb] at c2
            unfold lbt
            split at c2
            next c4 => exact Or.inr ⟨c4.2.1, Or.inr ⟨c4.2.2, decide_eq_true_iff.1 c2⟩⟩
            next c4 =>
              rcases decide_eq_true_iff.1 c2 with c2 | c2 | c2
              · omega
              · exact Or.inl c2
              · exact Or.inr ⟨c2.1, Or.inl c2.2⟩
          refine Or.inr ⟨w, by omega, rfl, by omega, fun m hm hK hn => ?_⟩
          by_cases g : m = b
          · rw [g]; exact c3
          · exact lbt_tr hw8 hb8 (by omega) (by omega) (fun z => g z.symm) c3 (h4 m (by omega) hK g)
        · rw [if_neg c2]
          refine Or.inr ⟨b, by omega, h2, h3, fun m hm hK hn => ?_⟩
          rcases Nat.lt_or_ge m w with g | g
          · exact h4 m g hK hn
          · obtain rfl : m = w := by omega
            rw [h2] at c2
            unfold lisb at c2
            simp only [tb] at c2
            have o := ltv_o ⟨m, hw8⟩ ⟨b, hb8⟩ hn
            simp only at o
            unfold lbt
            split at c2
            next c4 => exact Or.inr ⟨c4.2.1.symm, Or.inr ⟨c4.2.2.symm, o.resolve_left (fun z => c2 (decide_eq_true z))⟩⟩
            next c4 =>
              have c2 : ¬ ((b : Int) < 0 ∨ K m < K b ∨ (K m = K b ∧ ybt m < ybt b)) := fun z => c2 (decide_eq_true z)
              have c5 : ¬ (b : Int) < 0 := fun z => c2 (Or.inl z)
              have c6 : ¬ K m < K b := fun z => c2 (Or.inr (Or.inl z))
              by_cases c7 : K m = K b
              · have c8 : ¬ ybt m < ybt b := fun z => c2 (Or.inr (Or.inr ⟨c7, z⟩))
                have c9 : ¬ ybt m = ybt b := fun z => c4 ⟨by omega, c7, z⟩
                exact Or.inr ⟨c7.symm, Or.inl (by omega)⟩
              · exact Or.inl (by omega)
-- the class's plan
def ycc (E : Nat → Int) (wo pc co : Int) (s : Nat) : Int := if E s ≠ -6 ∧ E s ≠ wo then co else if s = 1 then pc else -1
set_option maxRecDepth 100000 in
theorem yv_opt {E : Nat → Int} {wo pc co : Int} {L : List yQ} (hL : 1 ≤ L.length) (h0 : 0 ≤ co) (hc : co ≤ pc) : ∀ b, 1 ≤ b → ∃ s, (yv E wo pc co L b).2.2.1 = s ∧ (1 ≤ s ∧ s ≤ b ∧ s ≤ L.length) ∧ 0 ≤ ycc E wo pc co s ∧ ((yv E wo pc co L b).1 = ycc E wo pc co s + (L.getD (s - 1) yq0).1 ∧ (yv E wo pc co L b).2.1 = 1 + (L.getD (s - 1) yq0).2.1) ∧ (yv E wo pc co L b).2.2.2 = (if E s ≠ -6 ∧ E s ≠ wo then E s else -6) ∧ ∀ t, 1 ≤ t → t ≤ b → t ≤ L.length → 0 ≤ ycc E wo pc co t → (yv E wo pc co L b).1 < ycc E wo pc co t + (L.getD (t - 1) yq0).1 ∨ ((yv E wo pc co L b).1 = ycc E wo pc co t + (L.getD (t - 1) yq0).1 ∧ ((yv E wo pc co L b).2.1 < 1 + (L.getD (t - 1) yq0).2.1 ∨ ((yv E wo pc co L b).2.1 = 1 + (L.getD (t - 1) yq0).2.1 ∧ t ≤ s))) := by
  intro b
  induction b with
  | zero => intro h; omega
  | succ b ih =>
    intro _
    have e : yv E wo pc co L (b + 1) = if b < L.length ∧ E (b + 1) ≠ -6 ∧ E (b + 1) ≠ wo ∧ (co + (L.getD b yq0).1 < (yv E wo pc co L b).1 ∨ (co + (L.getD b yq0).1 = (yv E wo pc co L b).1 ∧ 1 + (L.getD b yq0).2.1 ≤ (yv E wo pc co L b).2.1)) then (co + (L.getD b yq0).1, 1 + (L.getD b yq0).2.1, b + 1, E (b + 1)) else yv E wo pc co L b := rfl
    have eb : b + 1 - 1 = b := rfl
    rcases Nat.eq_zero_or_pos b with hb | hb
    · subst hb
      have e0 : yv E wo pc co L 0 = (pc + (L.getD 0 yq0).1, 1 + (L.getD 0 yq0).2.1, 1, -6) := rfl
      have ec : ycc E wo pc co 1 = if E 1 ≠ -6 ∧ E 1 ≠ wo then co else pc := rfl
      refine ⟨1, ?_⟩
      by_cases c : E 1 ≠ -6 ∧ E 1 ≠ wo
      · rw [if_pos c] at ec
        have c2 : 0 < L.length ∧ E (0 + 1) ≠ -6 ∧ E (0 + 1) ≠ wo ∧ (co + (L.getD 0 yq0).1 < (yv E wo pc co L 0).1 ∨ (co + (L.getD 0 yq0).1 = (yv E wo pc co L 0).1 ∧ 1 + (L.getD 0 yq0).2.1 ≤ (yv E wo pc co L 0).2.1)) := by
          refine ⟨by omega, c.1, c.2, ?_⟩
          rw [e0]
          dsimp only
          omega
        rw [e, if_pos c2, if_pos c, ec]
        refine ⟨rfl, ⟨by omega, by omega, by omega⟩, h0, ⟨rfl, rfl⟩, rfl, fun t h1 h2 h3 h4 => ?_⟩
        obtain rfl : t = 1 := by omega
        rw [ec]
        exact Or.inr ⟨rfl, Or.inr ⟨rfl, Nat.le_refl _⟩⟩
      · rw [if_neg c] at ec
        have c2 : ¬ (0 < L.length ∧ E (0 + 1) ≠ -6 ∧ E (0 + 1) ≠ wo ∧ (co + (L.getD 0 yq0).1 < (yv E wo pc co L 0).1 ∨ (co + (L.getD 0 yq0).1 = (yv E wo pc co L 0).1 ∧ 1 + (L.getD 0 yq0).2.1 ≤ (yv E wo pc co L 0).2.1))) := fun z => c ⟨z.2.1, z.2.2.1⟩
        rw [e, if_neg c2, if_neg c, ec, e0]
        refine ⟨rfl, ⟨by omega, by omega, by omega⟩, by omega, ⟨rfl, rfl⟩, rfl, fun t h1 h2 h3 h4 => ?_⟩
        obtain rfl : t = 1 := by omega
        rw [ec]
        exact Or.inr ⟨rfl, Or.inr ⟨rfl, Nat.le_refl _⟩⟩
    · obtain ⟨s, i1, i2, i3, i4, i5, i6⟩ := ih hb
      have ec : ycc E wo pc co (b + 1) = if E (b + 1) ≠ -6 ∧ E (b + 1) ≠ wo then co else -1 := by
        unfold ycc
        rw [if_neg (show ¬ b + 1 = 1 by omega)]
      by_cases c2 : b < L.length ∧ E (b + 1) ≠ -6 ∧ E (b + 1) ≠ wo ∧ (co + (L.getD b yq0).1 < (yv E wo pc co L b).1 ∨ (co + (L.getD b yq0).1 = (yv E wo pc co L b).1 ∧ 1 + (L.getD b yq0).2.1 ≤ (yv E wo pc co L b).2.1))
      · have c : E (b + 1) ≠ -6 ∧ E (b + 1) ≠ wo := ⟨c2.2.1, c2.2.2.1⟩
        rw [if_pos c] at ec
        refine ⟨b + 1, ?_⟩
        rw [e, if_pos c2, if_pos c, ec, eb]
        refine ⟨rfl, ⟨by omega, Nat.le_refl _, by omega⟩, h0, ⟨rfl, rfl⟩, rfl, fun t h1 h2 h3 h4 => ?_⟩
        dsimp only
        have c3 := c2.2.2.2
        rcases Nat.lt_or_ge t (b + 1) with g | g
        · have := i6 t h1 (by omega) h3 h4
          omega
        · obtain rfl : t = b + 1 := by omega
          rw [ec, eb]
          exact Or.inr ⟨rfl, Or.inr ⟨rfl, Nat.le_refl _⟩⟩
      · refine ⟨s, ?_⟩
        rw [e, if_neg c2]
        refine ⟨i1, ⟨i2.1, by omega, i2.2.2⟩, i3, i4, i5, fun t h1 h2 h3 h4 => ?_⟩
        rcases Nat.lt_or_ge t (b + 1) with g | g
        · exact i6 t h1 (by omega) h3 h4
        · obtain rfl : t = b + 1 := by omega
          by_cases c : E (b + 1) ≠ -6 ∧ E (b + 1) ≠ wo
          · rw [if_pos c] at ec
            rw [ec, eb]
            have c4 : ¬ (co + (L.getD b yq0).1 < (yv E wo pc co L b).1 ∨ (co + (L.getD b yq0).1 = (yv E wo pc co L b).1 ∧ 1 + (L.getD b yq0).2.1 ≤ (yv E wo pc co L b).2.1)) := fun z => c2 ⟨by omega, c.1, c.2, z⟩
            omega
          · rw [if_neg c] at ec
            omega
