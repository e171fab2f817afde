/-! The way as a row of sent words -/
set_option maxRecDepth 100000 in
theorem yv_at (E : Nat → Int) (wo pc co : Int) (L : List yQ) (hL : 1 ≤ L.length) : ∀ s : Nat, ((yv E wo pc co L s).2.2.1 = 1 ∧ (yv E wo pc co L s).2.2.2 = -6 ∧ (yv E wo pc co L s).1 = pc + (L.getD 0 yq0).1) ∨ ((1 ≤ (yv E wo pc co L s).2.2.1 ∧ (yv E wo pc co L s).2.2.1 ≤ s ∧ (yv E wo pc co L s).2.2.1 ≤ L.length) ∧ ((yv E wo pc co L s).2.2.2 = E (yv E wo pc co L s).2.2.1 ∧ (yv E wo pc co L s).2.2.2 ≠ -6) ∧ (yv E wo pc co L s).1 = co + (L.getD ((yv E wo pc co L s).2.2.1 - 1) yq0).1) := by
  intro s
  induction s with
  | zero => exact Or.inl ⟨rfl, rfl, rfl⟩
  | succ s ih =>
    unfold yv
    split
    next x => exact Or.inr ⟨⟨by dsimp only; omega, by dsimp only; omega, by dsimp only; omega⟩, ⟨rfl, x.2.1⟩, rfl⟩
    next x =>
      rcases ih with ih | ih
      · exact Or.inl ih
      · exact Or.inr ⟨⟨ih.1.1, by omega, ih.1.2.2⟩, ih.2⟩
set_option maxRecDepth 100000 in
theorem yD_at (E : Nat → Nat → Int) (wo : Int) (pc : Nat → Int) (co : Int) (n : Nat) : ∀ d j : Nat, d ≤ n → j < d → (((yD E wo pc co n d).getD j yq0).2.2.1 = 1 ∧ ((yD E wo pc co n d).getD j yq0).2.2.2 = -6 ∧ ((yD E wo pc co n d).getD j yq0).1 = pc (n - d + j) + ((yD E wo pc co n d).getD (j + 1) yq0).1) ∨ ((1 ≤ ((yD E wo pc co n d).getD j yq0).2.2.1 ∧ ((yD E wo pc co n d).getD j yq0).2.2.1 ≤ 3 ∧ j + ((yD E wo pc co n d).getD j yq0).2.2.1 ≤ d) ∧ (((yD E wo pc co n d).getD j yq0).2.2.2 = E (n - d + j) ((yD E wo pc co n d).getD j yq0).2.2.1 ∧ ((yD E wo pc co n d).getD j yq0).2.2.2 ≠ -6) ∧ ((yD E wo pc co n d).getD j yq0).1 = co + ((yD E wo pc co n d).getD (j + ((yD E wo pc co n d).getD j yq0).2.2.1) yq0).1) := by
  intro d
  induction d with
  | zero => intro j _ hj; exact absurd hj (by omega)
  | succ d ih =>
    intro j hd hj
    cases j with
    | zero =>
      have h := yv_at (E (n - (d + 1))) wo (pc (n - (d + 1))) co (yD E wo pc co n d) (by rw [yD_len]; omega) 3
      have e : (yD E wo pc co n (d + 1)).getD 0 yq0 = yv (E (n - (d + 1))) wo (pc (n - (d + 1))) co (yD E wo pc co n d) 3 := rfl
      rw [yD_len] at h
      rw [e]
      generalize yv (E (n - (d + 1))) wo (pc (n - (d + 1))) co (yD E wo pc co n d) 3 = q at h
      obtain ⟨q1, q2, q3, q4⟩ := q
      dsimp only at h ⊢
      rcases h with ⟨h1, h2, h3⟩ | ⟨h1, h2, h3⟩
      · exact Or.inl ⟨h1, h2, h3⟩
      · refine Or.inr ⟨by omega, h2, ?_⟩
        obtain ⟨x, rfl⟩ : ∃ x, q3 = x + 1 := ⟨q3 - 1, by omega⟩
        rw [h3, Nat.zero_add]
        rfl
    | succ j =>
      have h := ih j (by omega) (by omega)
      have e : ∀ i, (yD E wo pc co n (d + 1)).getD (i + 1) yq0 = (yD E wo pc co n d).getD i yq0 := fun i => rfl
      have e2 : n - (d + 1) + (j + 1) = n - d + j := by omega
      rw [e2, e j, e (j + 1)]
      rcases h with h | ⟨h1, h2, h3⟩
      · exact Or.inl h
      · refine Or.inr ⟨by omega, h2, ?_⟩
        rw [h3, show j + 1 + ((yD E wo pc co n d).getD j yq0).2.2.1 = j + ((yD E wo pc co n d).getD j yq0).2.2.1 + 1 by omega, e]
/-- the letters of a word as it is sent -/
def ypw (w : yW) : List Nat := (w.map fun x => x + 6) ++ [6 + w.sum % 20]
def ycw (c : Nat) : List Nat := [c / 216 % 6, c / 36 % 6, c / 6 % 6, c % 6]
set_option maxRecDepth 100000 in
theorem ysum_ltr (w : yW) : ∀ n, n ≤ w.length → ysum (ltr w) n = ((w.take n).sum : Nat) := by
  intro n
  induction n with
  | zero => intro _; rfl
  | succ n ih =>
    intro hn
    have e : ysum (ltr w) (n + 1) = ysum (ltr w) n + ltr w n := rfl
    have e2 : ltr w n = (w[n]'(by omega) : Nat) := by
      unfold ltr
      rw [List.getD_eq_getElem?_getD, List.getElem?_eq_getElem (by omega)]
      rfl
    rw [e, ih (by omega), List.take_succ_eq_append_getElem (by omega), e2, List.sum_append]
    simp
set_option maxRecDepth 100000 in
theorem ypw_at (w : yW) (j : Nat) (hj : j ≤ w.length) : (((ypw w).getD j 0 : Nat) : Int) = ylw w j := by
  unfold ylw ypw
  rw [List.getD_eq_getElem?_getD]
  by_cases c : j < w.length
  · rw [if_pos c, List.getElem?_append_left (by rw [List.length_map]; exact c), List.getElem?_map]
    unfold ltr
    rw [List.getD_eq_getElem?_getD, List.getElem?_eq_getElem c]
    show ((w[j] + 6 : Nat) : Int) = 6 + ((w[j] : Nat) : Int)
    omega
  · obtain rfl : j = w.length := by omega
    rw [if_neg c, List.getElem?_append_right (by rw [List.length_map]; exact Nat.le_refl _), List.length_map, Nat.sub_self, ysum_ltr w w.length (Nat.le_refl _), List.take_length]
    show ((6 + w.sum % 20 : Nat) : Int) = _
    omega
set_option maxRecDepth 100000 in
theorem ypw_len (w : yW) : (ypw w).length = w.length + 1 := by unfold ypw; simp
set_option maxRecDepth 100000 in
theorem ypw_r (w : yW) (hw : yltW w) : ∀ x ∈ ypw w, x < 26 := by
  intro x hx
  unfold ypw at hx
  rcases List.mem_append.1 hx with hx | hx
  · obtain ⟨y, hy, rfl⟩ := List.mem_map.1 hx
    have := hw y hy
    omega
  · rw [List.mem_singleton.1 hx]; omega
set_option maxRecDepth 100000 in
theorem ycw_at (c j : Nat) (hj : j < 4) : (((ycw c).getD j 0 : Nat) : Int) = dg c j := by
  rcases (show j = 0 ∨ j = 1 ∨ j = 2 ∨ j = 3 by omega) with rfl | rfl | rfl | rfl
  · show ((c / 216 % 6 : Nat) : Int) = (c : Int) / 216 % 6
    omega
  · show ((c / 36 % 6 : Nat) : Int) = (c : Int) / 36 % 6
    omega
  · show ((c / 6 % 6 : Nat) : Int) = (c : Int) / 6 % 6
    omega
  · show ((c % 6 : Nat) : Int) = (c : Int) % 6
    omega
set_option maxRecDepth 100000 in
theorem ycw_r (c : Nat) : ∀ x ∈ ycw c, x < 26 := by
  intro x hx
  unfold ycw at hx
  simp only [List.mem_cons, List.not_mem_nil, or_false] at hx
  omega
/-- a sent word: the entry is -6 for a plain one -/
def ynt (co wi : Int) (bk : yB) (ms : yF) (i : Nat) (sp : Nat) (en : Int) : yT := if en = -6 then (i, sp, 0, ypc co wi (ms.getD i []).length, ypw (ms.getD i []), ypw (ms.getD i [])) else (i, sp, 1, co, ycw (bcd bk en.toNat), ycw (bcd bk en.toNat))
/-- the sent words from a place on -/
def yns (co wi : Int) (bk : yB) (ms : yF) (D : List yQ) : Nat → Nat → List yT
  | 0, _ => []
  | f + 1, i => if i < ms.length then ynt co wi bk ms i (D.getD i yq0).2.2.1 (D.getD i yq0).2.2.2 :: yns co wi bk ms D f (i + (D.getD i yq0).2.2.1) else []
/-- a way that can be sent -/
def yok (bk : yB) (ms : yF) (D : List yQ) : Prop := ∀ i, i < ms.length → (1 ≤ (D.getD i yq0).2.2.1 ∧ (D.getD i yq0).2.2.1 ≤ 3 ∧ i + (D.getD i yq0).2.2.1 ≤ ms.length) ∧ ((D.getD i yq0).2.2.2 = -6 ∨ (0 ≤ (D.getD i yq0).2.2.2 ∧ (D.getD i yq0).2.2.2 < bk.length))
abbrev yDs (co wi : Int) (bk : yB) (ms : yF) (wo : Int) (mf : Int) (mp : Nat) : List yQ := yD (yE bk ms mf mp) wo (ypm co wi ms) co ms.length ms.length
set_option maxRecDepth 100000 in
theorem yok_D (co wi : Int) (bk : yB) (ms : yF) (wo : Int) : yok bk ms (yDs co wi bk ms wo (-6) 0) := by
  intro i hi
  have h := yD_at (yE bk ms (-6) 0) wo (ypm co wi ms) co ms.length ms.length i (Nat.le_refl _) hi
  rw [Nat.sub_self, Nat.zero_add] at h
  show (1 ≤ ((yD (yE bk ms (-6) 0) wo (ypm co wi ms) co ms.length ms.length).getD i yq0).2.2.1 ∧ ((yD (yE bk ms (-6) 0) wo (ypm co wi ms) co ms.length ms.length).getD i yq0).2.2.1 ≤ 3 ∧ i + ((yD (yE bk ms (-6) 0) wo (ypm co wi ms) co ms.length ms.length).getD i yq0).2.2.1 ≤ ms.length) ∧ (((yD (yE bk ms (-6) 0) wo (ypm co wi ms) co ms.length ms.length).getD i yq0).2.2.2 = -6 ∨ (0 ≤ ((yD (yE bk ms (-6) 0) wo (ypm co wi ms) co ms.length ms.length).getD i yq0).2.2.2 ∧ ((yD (yE bk ms (-6) 0) wo (ypm co wi ms) co ms.length ms.length).getD i yq0).2.2.2 < bk.length))
  generalize (yD (yE bk ms (-6) 0) wo (ypm co wi ms) co ms.length ms.length).getD i yq0 = u at h ⊢
  rcases h with ⟨h1, h2, h3⟩ | ⟨h1, h2, h3⟩
  · exact ⟨by omega, Or.inl h2⟩
  · refine ⟨by omega, Or.inr ?_⟩
    have e : yE bk ms (-6) 0 i u.2.2.1 = yfind bk (ysub ms i u.2.2.1) 0 bk.length := by
      unfold yE
      rw [if_neg (fun x => by have := x.1; omega)]
    rw [e] at h2
    have r := yfd_r (fun e => decide (bph bk e = ysub ms i u.2.2.1)) bk.length 0
    unfold yfind at h2
    omega
set_option maxRecDepth 100000 in
theorem yns_sum (co wi : Int) (bk : yB) (ms : yF) : ∀ f i, i + f = ms.length → ((yns co wi bk ms (yDs co wi bk ms (-6) (-6) 0) f i).map fun t => tpa t).sum = ((yDs co wi bk ms (-6) (-6) 0).getD i yq0).1 := by
  intro f
  have h0 : ((yDs co wi bk ms (-6) (-6) 0).getD ms.length yq0) = yq0 := by
    have : ∀ d, (yD (yE bk ms (-6) 0) (-6) (ypm co wi ms) co ms.length d).getD d yq0 = yq0 := by
      intro d
      induction d with
      | zero => rfl
      | succ d ih => exact ih
    exact this _
  have key : ∀ f i, ms.length ≤ i + f → i ≤ ms.length → ((yns co wi bk ms (yDs co wi bk ms (-6) (-6) 0) f i).map fun t => tpa t).sum = ((yDs co wi bk ms (-6) (-6) 0).getD i yq0).1 := by
    intro f
    induction f with
    | zero =>
      intro i hf hi
      obtain rfl : i = ms.length := by omega
      rw [h0]; rfl
    | succ f ih =>
      intro i hf hi
      unfold yns
      by_cases c : i < ms.length
      · rw [if_pos c]
        have h := yD_at (yE bk ms (-6) 0) (-6) (ypm co wi ms) co ms.length ms.length i (Nat.le_refl _) c
        have ok := (yok_D co wi bk ms (-6) i c).1
        rw [Nat.sub_self, Nat.zero_add] at h
        rw [List.map_cons, List.sum_cons, ih _ (by omega) (by omega)]
        unfold ynt
        rcases h with ⟨h1, h2, h3⟩ | ⟨h1, h2, h3⟩
        · rw [if_pos h2, h1, h3]; rfl
        · rw [if_neg h2.2, h3]
      · obtain rfl : i = ms.length := by omega
        rw [if_neg c, h0]; rfl
  intro i hi
  exact key f i (by omega) (by omega)
