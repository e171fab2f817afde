/-! The class's plan is the best of all ways -/
section
variable {E : Nat → Nat → Int} {wo : Int} {pc : Nat → Int} {co : Int} {n : Nat}
abbrev yTt (E : Nat → Nat → Int) (wo : Int) (pc : Nat → Int) (co : Int) (n t : Nat) : yQ := (yD E wo pc co n n).getD t yq0
set_option maxRecDepth 100000 in
theorem yD_shift : ∀ e d j, (yD E wo pc co n (d + e)).getD (e + j) yq0 = (yD E wo pc co n d).getD j yq0 := by
  intro e
  induction e with
  | zero => intro d j; rw [Nat.zero_add]; rfl
  | succ e ih =>
    intro d j
    rw [← ih d j]
    have e1 : e + 1 + j = e + j + 1 := by omega
    rw [e1]
    rfl
set_option maxRecDepth 100000 in
theorem yT_n : yTt E wo pc co n n = yq0 := by
  have := yD_shift (E := E) (wo := wo) (pc := pc) (co := co) (n := n) n 0 0
  rw [Nat.zero_add, Nat.add_zero] at this
  exact this
set_option maxRecDepth 100000 in
theorem yT_i {i : Nat} (hi : i < n) : yTt E wo pc co n i = yv (E i) wo (pc i) co (yD E wo pc co n (n - (i + 1))) 3 ∧ (yD E wo pc co n (n - (i + 1))).length = n - i ∧ ∀ j, (yD E wo pc co n (n - (i + 1))).getD j yq0 = yTt E wo pc co n (i + 1 + j) := by
  refine ⟨?_, ?_, fun j => ?_⟩
  · have := yD_shift (E := E) (wo := wo) (pc := pc) (co := co) (n := n) i (n - (i + 1) + 1) 0
    rw [show n - (i + 1) + 1 + i = n by omega] at this
    show (yD E wo pc co n n).getD (i + 0) yq0 = _
    rw [this]
    have e : (yD E wo pc co n (n - (i + 1) + 1)) = yv (E (n - (n - (i + 1) + 1))) wo (pc (n - (n - (i + 1) + 1))) co (yD E wo pc co n (n - (i + 1))) 3 :: yD E wo pc co n (n - (i + 1)) := rfl
    rw [e, show n - (n - (i + 1) + 1) = i by omega]
    rfl
  · rw [yD_len]; omega
  · have := yD_shift (E := E) (wo := wo) (pc := pc) (co := co) (n := n) (i + 1) (n - (i + 1)) j
    rw [show n - (i + 1) + (i + 1) = n by omega] at this
    exact this.symm
set_option maxRecDepth 100000 in
theorem yT_opt (h0 : 0 ≤ co) (hp : ∀ i, i < n → co ≤ pc i) {i : Nat} (hi : i < n) : ∃ s, (yTt E wo pc co n i).2.2.1 = s ∧ (1 ≤ s ∧ s ≤ 3 ∧ i + s ≤ n) ∧ 0 ≤ ycc (E i) wo (pc i) co s ∧ ((yTt E wo pc co n i).1 = ycc (E i) wo (pc i) co s + (yTt E wo pc co n (i + s)).1 ∧ (yTt E wo pc co n i).2.1 = 1 + (yTt E wo pc co n (i + s)).2.1) ∧ (yTt E wo pc co n i).2.2.2 = (if E i s ≠ -6 ∧ E i s ≠ wo then E i s else -6) ∧ ∀ t, 1 ≤ t → t ≤ 3 → i + t ≤ n → 0 ≤ ycc (E i) wo (pc i) co t → (yTt E wo pc co n i).1 < ycc (E i) wo (pc i) co t + (yTt E wo pc co n (i + t)).1 ∨ ((yTt E wo pc co n i).1 = ycc (E i) wo (pc i) co t + (yTt E wo pc co n (i + t)).1 ∧ ((yTt E wo pc co n i).2.1 < 1 + (yTt E wo pc co n (i + t)).2.1 ∨ ((yTt E wo pc co n i).2.1 = 1 + (yTt E wo pc co n (i + t)).2.1 ∧ t ≤ s))) := by
  obtain ⟨e1, e2, e3⟩ := yT_i (E := E) (wo := wo) (pc := pc) (co := co) hi
  obtain ⟨s, a1, a2, a3, a4, a5, a6⟩ := yv_opt (E := E i) (wo := wo) (pc := pc i) (co := co) (L := yD E wo pc co n (n - (i + 1))) (by omega) h0 (hp i hi) 3 (by decide)
  have e4 : ∀ t, 1 ≤ t → (yD E wo pc co n (n - (i + 1))).getD (t - 1) yq0 = yTt E wo pc co n (i + t) := by
    intro t ht
    rw [e3, show i + 1 + (t - 1) = i + t by omega]
  rw [e1]
  refine ⟨s, a1, ⟨a2.1, a2.2.1, by omega⟩, a3, ?_, a5, fun t h1 h2 h3 h4 => ?_⟩
  · rw [← e4 s a2.1]; exact a4
  · rw [← e4 t h1]
    exact a6 t h1 h2 (by omega) h4
def dwy (T : Nat → yQ) (n : Nat) : Nat → Nat → List Nat
  | 0, _ => []
  | f + 1, i => if i < n then (T i).2.2.1 :: dwy T n f (i + (T i).2.2.1) else []
set_option maxRecDepth 100000 in
theorem dwy_ok {c : Nat → Nat → Int} (h0 : 0 ≤ co) (hp : ∀ i, i < n → co ≤ pc i) (hc : ∀ i s, i < n → 1 ≤ s → s ≤ 3 → c i s = ycc (E i) wo (pc i) co s) : ∀ f i, n ≤ i + f → i ≤ n → ((∀ s ∈ dwy (yTt E wo pc co n) n f i, 1 ≤ s) ∧ i + (dwy (yTt E wo pc co n) n f i).sum = n) ∧ (wco c i (dwy (yTt E wo pc co n) n f i) = (yTt E wo pc co n i).1 ∧ 0 ≤ (yTt E wo pc co n i).1) ∧ (yTt E wo pc co n i).2.1 = (dwy (yTt E wo pc co n) n f i).length := by
  intro f
  induction f with
  | zero =>
    intro i h1 h2
    obtain rfl : i = n := by omega
    rw [yT_n]
    exact ⟨⟨fun s hs => absurd hs (by simp [dwy]), rfl⟩, ⟨rfl, Int.le_refl _⟩, rfl⟩
  | succ f ih =>
    intro i h1 h2
    have e : dwy (yTt E wo pc co n) n (f + 1) i = if i < n then (yTt E wo pc co n i).2.2.1 :: dwy (yTt E wo pc co n) n f (i + (yTt E wo pc co n i).2.2.1) else [] := rfl
    rw [e]
    by_cases hi : i < n
    · rw [if_pos hi]
      obtain ⟨s, a1, a2, a3, a4, a5, a6⟩ := yT_opt (E := E) (wo := wo) (pc := pc) h0 hp hi
      rw [a1]
      obtain ⟨⟨b1, b2⟩, ⟨b3, b4⟩, b5⟩ := ih (i + s) (by omega) (by omega)
      refine ⟨⟨fun t ht => ?_, ?_⟩, ⟨?_, ?_⟩, ?_⟩
      · rcases List.mem_cons.1 ht with g | g
        · rw [g]; exact a2.1
        · exact b1 t g
      · rw [List.sum_cons]; omega
      · have e2 : wco c i (s :: dwy (yTt E wo pc co n) n f (i + s)) = if c i s < 0 then -1 else if wco c (i + s) (dwy (yTt E wo pc co n) n f (i + s)) < 0 then -1 else c i s + wco c (i + s) (dwy (yTt E wo pc co n) n f (i + s)) := rfl
        rw [e2, hc i s hi a2.1 a2.2.1, b3, if_neg (by omega), if_neg (by omega)]
        exact a4.1.symm
      · rw [a4.1]; omega
      · rw [a4.2, b5, List.length_cons]; omega
    · rw [if_neg hi]
      obtain rfl : i = n := by omega
      rw [yT_n]
      exact ⟨⟨fun s hs => absurd hs (by simp), rfl⟩, ⟨rfl, Int.le_refl _⟩, rfl⟩
set_option maxRecDepth 100000 in
theorem dwy_best {c : Nat → Nat → Int} (h0 : 0 ≤ co) (hp : ∀ i, i < n → co ≤ pc i) (hc : ∀ i s, i < n → 1 ≤ s → s ≤ 3 → c i s = ycc (E i) wo (pc i) co s) (hc3 : ∀ i s, 3 < s → c i s < 0) : ∀ (l : List Nat) (i f : Nat), i ≤ n → n ≤ i + f → (∀ s ∈ l, 1 ≤ s) → i + l.sum = n → 0 ≤ wco c i l → (yTt E wo pc co n i).1 < wco c i l ∨ ((yTt E wo pc co n i).1 = wco c i l ∧ ((yTt E wo pc co n i).2.1 < l.length ∨ ((yTt E wo pc co n i).2.1 = l.length ∧ (l = dwy (yTt E wo pc co n) n f i ∨ lgt (dwy (yTt E wo pc co n) n f i) l = true)))) := by
  intro l
  induction l with
  | nil =>
    intro i f h1 h2 h3 h4 h5
    have h4 : i + 0 = n := h4
    obtain rfl : i = n := by omega
    rw [yT_n]
    refine Or.inr ⟨rfl, Or.inr ⟨rfl, Or.inl ?_⟩⟩
    cases f with
    | zero => rfl
    | succ f =>
      have e : dwy (yTt E wo pc co i) i (f + 1) i = if i < i then (yTt E wo pc co i i).2.2.1 :: dwy (yTt E wo pc co i) i f (i + (yTt E wo pc co i i).2.2.1) else [] := rfl
      rw [e, if_neg (Nat.lt_irrefl _)]
  | cons t r ih =>
    intro i f h1 h2 h3 h4 h5
    have ht := h3 t (List.mem_cons_self)
    rw [List.sum_cons] at h4
    have hi : i < n := by omega
    obtain ⟨f, rfl⟩ : ∃ g, f = g + 1 := ⟨f - 1, by omega⟩
    have e2 : wco c i (t :: r) = if c i t < 0 then -1 else if wco c (i + t) r < 0 then -1 else c i t + wco c (i + t) r := rfl
    rw [e2] at h5
    have v1 : ¬ c i t < 0 := fun z => by rw [if_pos z] at h5; omega
    rw [if_neg v1] at h5
    have v2 : ¬ wco c (i + t) r < 0 := fun z => by rw [if_pos z] at h5; omega
    rw [if_neg v2] at h5
    rw [e2, if_neg v1, if_neg v2]
    have t3 : t ≤ 3 := by
      rcases Nat.lt_or_ge 3 t with g | g
      · exact absurd (hc3 i t g) v1
      · exact g
    have e3 := hc i t hi ht t3
    obtain ⟨s, a1, a2, a3, a4, a5, a6⟩ := yT_opt (E := E) (wo := wo) (pc := pc) h0 hp hi
    have b := a6 t ht t3 (by omega) (by omega)
    have g := ih (i + t) f (by omega) (by omega) (fun s hs => h3 s (List.mem_cons_of_mem _ hs)) (by omega) (by omega)
    have e : dwy (yTt E wo pc co n) n (f + 1) i = s :: dwy (yTt E wo pc co n) n f (i + s) := by
      have e : dwy (yTt E wo pc co n) n (f + 1) i = if i < n then (yTt E wo pc co n i).2.2.1 :: dwy (yTt E wo pc co n) n f (i + (yTt E wo pc co n i).2.2.1) else [] := rfl
      rw [e, if_pos hi, a1]
    rw [e, List.length_cons, ← e3] at *
    have el : lgt (s :: dwy (yTt E wo pc co n) n f (i + s)) (t :: r) = (decide (t < s) || (decide (s = t) && lgt (dwy (yTt E wo pc co n) n f (i + s)) r)) := rfl
    rcases b with b | ⟨b1, b2⟩
    · exact Or.inl (by omega)
    · rcases g with g | ⟨g1, g2⟩
      · exact Or.inl (by omega)
      · refine Or.inr ⟨by omega, ?_⟩
        rcases b2 with b2 | ⟨b2, b3⟩
        · exact Or.inl (by omega)
        · rcases g2 with g2 | ⟨g2, g3⟩
          · exact Or.inl (by omega)
          · refine Or.inr ⟨by omega, ?_⟩
            rcases Nat.lt_or_ge t s with x | x
            · refine Or.inr ?_
              rw [el, decide_eq_true x]
              rfl
            · obtain rfl : s = t := by omega
              rcases g3 with g3 | g3
              · exact Or.inl (by rw [← g3])
              · refine Or.inr ?_
                rw [el, g3]
                simp
end
set_option maxRecDepth 100000 in
theorem way_eq {E : Nat → Nat → Int} {wo : Int} {pc : Nat → Int} {co : Int} {n : Nat} {c : Nat → Nat → Int} (h0 : 0 ≤ co) (hp : ∀ i, i < n → co ≤ pc i) (hc : ∀ i s, i < n → 1 ≤ s → s ≤ 3 → c i s = ycc (E i) wo (pc i) co s) (hc3 : ∀ i s, 3 < s → c i s < 0) (h1 : 1 ≤ n) (h4 : n ≤ 4) : ∃ b : Nat, (b < 8 ∧ b < 2 ^ (n - 1)) ∧ lbs (fun m => lct c n m n 0 0 0) (2 ^ (n - 1)) = ((b : Int), lct c n b n 0 0 0) ∧ lsp n b n 0 0 = dwy (yTt E wo pc co n) n n 0 ∧ lct c n b n 0 0 0 = (yTt E wo pc co n 0).1 := by
  have hW : 2 ^ (n - 1) ≤ 8 := by
    have : 2 ^ (n - 1) ≤ 2 ^ 3 := Nat.pow_le_pow_right (by omega) (by omega)
    omega
  have hK : ∀ m, lct c n m n 0 0 0 = if wco c 0 (lsp n m n 0 0) < 0 then -1 else wco c 0 (lsp n m n 0 0) := by
    intro m
    rw [lct_eq c n m n 0 0 0 (Nat.le_refl _), Int.zero_add]
  have hK2 : ∀ m, lct c n m n 0 0 0 = wco c 0 (lsp n m n 0 0) := by
    intro m
    rw [hK]
    have := wco_m c (lsp n m n 0 0) 0
    split <;> omega
  obtain ⟨⟨d1, d2⟩, ⟨d3, d4⟩, d5⟩ := dwy_ok (E := E) (wo := wo) (pc := pc) h0 hp hc n 0 (by omega) (by omega)
  obtain ⟨d, hd8, hdW, hd⟩ := lsp_of h1 h4 _ d1 (by omega)
  have hKd : lct c n d n 0 0 0 = (yTt E wo pc co n 0).1 := by rw [hK2, hd, d3]
  rcases lbs_best (fun m => lct c n m n 0 0 0) (2 ^ (n - 1)) hW with ⟨g1, -⟩ | ⟨b, g1, g2, g3, g4⟩
  · have g5 : lct c n d n 0 0 0 < 0 := g1 d hdW
    omega
  · refine ⟨b, ⟨by omega, g1⟩, g2, ?_⟩
    by_cases hbd : d = b
    · rw [← hbd]
      exact ⟨hd, hKd⟩
    · exfalso
      have k1 := g4 d hdW (by show 0 ≤ lct c n d n 0 0 0; omega) hbd
      have hn5 : n < 5 := by omega
      have hb8 : b < 8 := by omega
      obtain ⟨p1, p2, p3⟩ := lsp_1 ⟨n, hn5⟩ ⟨b, hb8⟩ h1 g1
      obtain ⟨r1, r2, r3⟩ := lsp_1 ⟨n, hn5⟩ ⟨d, hd8⟩ h1 hdW
      obtain ⟨s1, s2⟩ := lsp_2 ⟨n, hn5⟩ ⟨d, hd8⟩ ⟨b, hb8⟩ h1 hdW g1 hbd
      have ta := ltv_a ⟨b, hb8⟩ ⟨d, hd8⟩ (fun z => hbd z.symm)
      simp only at p1 p2 p3 r1 r2 r3 s1 s2 ta g3
      rw [hK2] at g3
      have k2 := dwy_best (E := E) (wo := wo) (pc := pc) h0 hp hc hc3 (lsp n b n 0 0) 0 n (by omega) (by omega) p3 (by omega) g3
      rw [← hd] at k2
      unfold lbt at k1
      simp only at k1
      rw [hK2 b, hKd] at k1
      have q1 : (yTt E wo pc co n 0).2.1 = ybt d + 1 := by rw [d5, ← hd]; exact r1
      rw [q1] at k2
      have q2 : (((lsp n b n 0 0).length : Nat) : Int) = ybt b + 1 := p1
      rcases k2 with k2 | ⟨k2, k3 | ⟨k3, k4 | k4⟩⟩
      · rcases k1 with k1 | ⟨k1, -⟩ <;> omega
      · rcases k1 with k1 | ⟨k1, k1' | ⟨k1', -⟩⟩ <;> omega
      · exact s1 k4.symm
      · rcases k1 with k1 | ⟨k1, k1' | ⟨k1', k5⟩⟩
        · omega
        · omega
        · exact ta k5 (s2 (by omega) k4)
