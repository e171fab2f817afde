/-! Words as text -/
def ytl (ps : yF) : List Int := if ps = [] then [] else 47 :: ytx ps
abbrev ylm (w : yW) : List Int := w.map fun (x : Nat) => (x : Int) + 103
set_option maxRecDepth 100000 in
theorem ytx_c (w : yW) (ps : yF) : ytx (w :: ps) = ylm w ++ ytl ps := by
  cases ps with
  | nil => unfold ytl; rw [if_pos rfl, List.append_nil]; rfl
  | cons v ws => unfold ytl; rw [if_neg (by simp)]; rfl
set_option maxRecDepth 100000 in
theorem ylm_inj : ∀ (w v : yW) (s t : List Int), (s = [] ∨ ∃ r, s = 47 :: r) → (t = [] ∨ ∃ r, t = 47 :: r) → ylm w ++ s = ylm v ++ t → w = v ∧ s = t := by
  intro w
  induction w with
  | nil =>
    intro v s t hs ht h
    cases v with
    | nil => exact ⟨rfl, h⟩
    | cons y v =>
      have h : s = ((y : Int) + 103) :: (ylm v ++ t) := h
      rcases hs with hs | ⟨r, hs⟩
      · rw [hs] at h; exact absurd h (by simp)
      · rw [hs] at h
        have := (List.cons.inj h).1
        omega
  | cons x w ih =>
    intro v s t hs ht h
    cases v with
    | nil =>
      have h : ((x : Int) + 103) :: (ylm w ++ s) = t := h
      rcases ht with ht | ⟨r, ht⟩
      · rw [ht] at h; exact absurd h (by simp)
      · rw [ht] at h
        have := (List.cons.inj h).1
        omega
    | cons y v =>
      have h : ((x : Int) + 103) :: (ylm w ++ s) = ((y : Int) + 103) :: (ylm v ++ t) := h
      have h2 := List.cons.inj h
      obtain ⟨e1, e2⟩ := ih v s t hs ht h2.2
      exact ⟨by rw [e1, show x = y by omega], e2⟩
set_option maxRecDepth 100000 in
theorem ytl_47 (ps : yF) : ytl ps = [] ∨ ∃ r, ytl ps = 47 :: r := by
  unfold ytl
  split
  · exact Or.inl rfl
  · exact Or.inr ⟨_, rfl⟩
set_option maxRecDepth 100000 in
theorem ytx_inj : ∀ (p q : yF), yokF p → yokF q → ytx p = ytx q → p = q := by
  intro p
  induction p with
  | nil =>
    intro q hp hq h
    cases q with
    | nil => rfl
    | cons v qs =>
      rw [ytx_c] at h
      have := (hq v (List.mem_cons_self)).1.1
      cases v with
      | nil => exact absurd this (by simp)
      | cons y v => exact absurd h (by simp [ytx])
  | cons w ps ih =>
    intro q hp hq h
    cases q with
    | nil =>
      rw [ytx_c] at h
      have := (hp w (List.mem_cons_self)).1.1
      cases w with
      | nil => exact absurd this (by simp)
      | cons y v => exact absurd h (by simp [ytx])
    | cons v qs =>
      rw [ytx_c, ytx_c] at h
      obtain ⟨e1, e2⟩ := ylm_inj w v _ _ (ytl_47 ps) (ytl_47 qs) h
      have e3 : ps = qs := by
        unfold ytl at e2
        by_cases c1 : ps = []
        · by_cases c2 : qs = []
          · rw [c1, c2]
          · rw [if_pos c1, if_neg c2] at e2; exact absurd e2 (by simp)
        · by_cases c2 : qs = []
          · rw [if_neg c1, if_pos c2] at e2; exact absurd e2 (by simp)
          · rw [if_neg c1, if_neg c2] at e2
            exact ih qs (fun u hu => hp u (List.mem_cons_of_mem _ hu)) (fun u hu => hq u (List.mem_cons_of_mem _ hu)) (List.cons.inj e2).2
      rw [e1, e3]
/-- where a word begins -/
def yst (ms : yF) : Nat → Nat
  | 0 => 0
  | i + 1 => yst ms i + (ms.getD i []).length + 1
set_option maxRecDepth 100000 in
theorem yst_c (w : yW) (ps : yF) : ∀ i, yst (w :: ps) (i + 1) = w.length + 1 + yst ps i := by
  intro i
  induction i with
  | zero => unfold yst yst; show 0 + w.length + 1 = _; omega
  | succ i ih =>
    have e : yst (w :: ps) (i + 1 + 1) = yst (w :: ps) (i + 1) + (ps.getD i []).length + 1 := rfl
    have e2 : yst ps (i + 1) = yst ps i + (ps.getD i []).length + 1 := rfl
    rw [e, ih, e2]
    omega
set_option maxRecDepth 100000 in
theorem yst_le (ms : yF) : ∀ i j, i ≤ j → yst ms i + (j - i) ≤ yst ms j := by
  intro i j h
  induction j with
  | zero => obtain rfl : i = 0 := by omega
            exact Nat.le_refl _
  | succ j ih =>
    have e2 : yst ms (j + 1) = yst ms j + (ms.getD j []).length + 1 := rfl
    by_cases c : i = j + 1
    · rw [c]; omega
    · have := ih (by omega)
      omega
set_option maxRecDepth 100000 in
theorem ytx_len : ∀ ms : yF, ms ≠ [] → (ytx ms).length + 1 = yst ms ms.length := by
  intro ms
  induction ms with
  | nil => intro h; exact absurd rfl h
  | cons w ps ih =>
    intro _
    rw [ytx_c, List.length_append, List.length_map, List.length_cons, yst_c]
    unfold ytl
    by_cases c : ps = []
    · rw [if_pos c, c]
      show w.length + 0 + 1 = w.length + 1 + 0
      omega
    · rw [if_neg c, List.length_cons, ← ih c]
      omega
set_option maxRecDepth 100000 in
theorem ytx_drop : ∀ (ms : yF) (i : Nat), i < ms.length → (ytx ms).drop (yst ms i) = ytx (ms.drop i) := by
  intro ms
  induction ms with
  | nil => intro i h; exact absurd h (by simp)
  | cons w ps ih =>
    intro i h
    cases i with
    | zero => rfl
    | succ i =>
      rw [List.length_cons] at h
      rw [yst_c, ytx_c, List.drop_append, List.drop_of_length_le (by rw [List.length_map]; omega), List.length_map, List.nil_append]
      have c : ps ≠ [] := fun e => by rw [e] at h; simp at h
      unfold ytl
      rw [if_neg c, show w.length + 1 + yst ps i - w.length = yst ps i + 1 by omega, List.drop_succ_cons, ih i (by omega)]
      rfl
set_option maxRecDepth 100000 in
theorem ytx_take : ∀ (ms : yF) (s : Nat), 1 ≤ s → s ≤ ms.length → ytx (ms.take s) = (ytx ms).take (yst ms s - 1) := by
  intro ms
  induction ms with
  | nil => intro s h1 h2; rw [List.length_nil] at h2; omega
  | cons w ps ih =>
    intro s h1 h2
    cases s with
    | zero => omega
    | succ s =>
      rw [List.length_cons] at h2
      rw [List.take_succ_cons, ytx_c, ytx_c, yst_c, List.take_append, List.length_map, List.take_of_length_le (l := ylm w) (by rw [List.length_map]; omega)]
      congr 1
      unfold ytl
      cases s with
      | zero =>
        rw [List.take_zero, if_pos rfl, show yst ps 0 = 0 from rfl, show w.length + 1 + 0 - 1 - w.length = 0 by omega, List.take_zero]
      | succ s =>
        have c : ps ≠ [] := fun e => by rw [e] at h2; simp at h2
        have c2 : ps.take (s + 1) ≠ [] := fun e => by
          have := congrArg List.length e
          rw [List.length_take, List.length_nil] at this
          omega
        have l := yst_le ps 0 (s + 1) (by omega)
        rw [if_neg c, if_neg c2, ih (s + 1) (by omega) (by omega), show w.length + 1 + yst ps (s + 1) - 1 - w.length = (yst ps (s + 1) - 1) + 1 by omega, List.take_succ_cons]
set_option maxRecDepth 100000 in
theorem yst_drop (ms : yF) (i : Nat) : ∀ s, yst (ms.drop i) s + yst ms i = yst ms (i + s) := by
  intro s
  induction s with
  | zero => show 0 + yst ms i = yst ms i; omega
  | succ s ih =>
    have e1 : yst (ms.drop i) (s + 1) = yst (ms.drop i) s + ((ms.drop i).getD s []).length + 1 := rfl
    have e2 : yst ms (i + (s + 1)) = yst ms (i + s) + (ms.getD (i + s) []).length + 1 := rfl
    have e3 : (ms.drop i).getD s [] = ms.getD (i + s) [] := by
      rw [List.getD_eq_getElem?_getD, List.getElem?_drop, List.getD_eq_getElem?_getD]
    rw [e1, e2, e3]
    omega
-- the text of words that stand side by side
set_option maxRecDepth 100000 in
theorem ytx_sub (ms : yF) (i s : Nat) (h1 : 1 ≤ s) (h2 : i + s ≤ ms.length) : (ytx (ysub ms i s)).length + 1 + yst ms i = yst ms (i + s) ∧ ∀ k, k < (ytx (ysub ms i s)).length → (ytx (ysub ms i s)).getD k 0 = (ytx ms).getD (yst ms i + k) 0 := by
  have e : ytx (ysub ms i s) = ((ytx ms).drop (yst ms i)).take (yst (ms.drop i) s - 1) := by
    unfold ysub
    rw [ytx_take _ _ h1 (by rw [List.length_drop]; omega), ytx_drop ms i (by omega)]
  have hd := yst_drop ms i s
  have l1 := yst_le (ms.drop i) 0 s (by omega)
  have hl : (ytx (ysub ms i s)).length = yst (ms.drop i) s - 1 := by
    rw [e, List.length_take, List.length_drop]
    have := ytx_len ms (fun e => by rw [e] at h2; simp at h2; omega)
    have := yst_le ms (i + s) ms.length h2
    omega
  refine ⟨by rw [hl]; have := yst_le (ms.drop i) 0 s (by omega); omega, fun k hk => ?_⟩
  rw [hl] at hk
  rw [e, List.getD_eq_getElem?_getD, List.getElem?_take, if_pos hk, List.getElem?_drop, List.getD_eq_getElem?_getD]
set_option maxRecDepth 100000 in
theorem ytx_at (ms : yF) (i j : Nat) (hi : i < ms.length) (hj : j < (ms.getD i []).length) : (ytx ms).getD (yst ms i + j) 0 = ltr (ms.getD i []) j + 103 := by
  have h := ytx_drop ms i hi
  have e : (ytx ms).getD (yst ms i + j) 0 = ((ytx ms).drop (yst ms i)).getD j 0 := by
    rw [List.getD_eq_getElem?_getD, List.getD_eq_getElem?_getD, List.getElem?_drop]
  rw [e, h, y_drop (d := []) hi, ytx_c, List.getD_eq_getElem?_getD, List.getElem?_append_left (by rw [List.length_map]; exact hj), List.getElem?_map]
  unfold ltr
  rw [List.getD_eq_getElem?_getD (l := ms.getD i []) (i := j), List.getElem?_eq_getElem hj]
  rfl
set_option maxRecDepth 100000 in
theorem ytx_47 (ms : yF) (i : Nat) (hi : i + 1 < ms.length) : (ytx ms).getD (yst ms i + (ms.getD i []).length) 0 = 47 := by
  have h := ytx_drop ms i (by omega)
  have e : ∀ n, (ytx ms).getD (yst ms i + n) 0 = ((ytx ms).drop (yst ms i)).getD n 0 := by
    intro n
    rw [List.getD_eq_getElem?_getD, List.getD_eq_getElem?_getD, List.getElem?_drop]
  rw [e, h, y_drop (d := []) (show i < ms.length by omega), ytx_c, List.getD_eq_getElem?_getD, List.getElem?_append_right (by rw [List.length_map]; exact Nat.le_refl _), List.length_map, Nat.sub_self]
  unfold ytl
  rw [if_neg]
  · exact rfl
  · intro e
    have := congrArg List.length e
    rw [List.length_drop, List.length_nil] at this
    omega
set_option maxRecDepth 100000 in
theorem ytx_38 {p : yF} (hp : yokF p) (h3 : p.length ≤ 3) : (ytx p).length ≤ 38 := by
  by_cases c : p = []
  · rw [c]; decide
  · have := ytx_len p c
    have key : ∀ n, n ≤ p.length → yst p n ≤ 13 * n := by
      intro n
      induction n with
      | zero => intro _; exact Nat.le_refl _
      | succ n ih =>
        intro hn
        have e : yst p (n + 1) = yst p n + (p.getD n []).length + 1 := rfl
        have w := (hp _ (ygetD_mem (d := []) (show n < p.length by omega))).1.2
        have := ih (by omega)
        omega
    have := key p.length (Nat.le_refl _)
    omega
set_option maxRecDepth 100000 in
theorem ytx_r {ms : yF} (hm : yokF ms) : ∀ x ∈ ytx ms, 33 ≤ x ∧ x ≤ 126 := by
  induction ms with
  | nil => intro x hx; exact absurd hx (by simp [ytx])
  | cons w ps ih =>
    intro x hx
    rw [ytx_c] at hx
    rcases List.mem_append.1 hx with hx | hx
    · obtain ⟨y, hy, rfl⟩ := List.mem_map.1 hx
      have := (hm w (List.mem_cons_self)).2 y hy
      omega
    · unfold ytl at hx
      split at hx
      · exact absurd hx (by simp)
      · rcases List.mem_cons.1 hx with rfl | hx
        · omega
        · exact ih (fun u hu => hm u (List.mem_cons_of_mem _ hu)) x hx
set_option maxRecDepth 100000 in
theorem ytx_rD {ms : yF} (hm : yokF ms) (k : Nat) : 0 ≤ (ytx ms).getD k 0 ∧ (ytx ms).getD k 0 ≤ 126 := by
  by_cases c : k < (ytx ms).length
  · have := ytx_r hm _ (ygetD_mem (d := 0) c)
    omega
  · rw [ygetD_out (by omega)]; omega
/-- what is so of each state by itself -/
def gS (S : yS) : Prop := ((1 ≤ sco S ∧ sco S ≤ 99) ∧ (2 ≤ swi S ∧ swi S ≤ 15) ∧ 1 ≤ sap S ∧ sap S ≤ 4) ∧ ((sbk S).length ≤ 16 ∧ ∀ i, i < (sbk S).length → bcd (sbk S) i < 1296 ∧ yokF (bph (sbk S) i) ∧ 1 ≤ (bph (sbk S) i).length ∧ (bph (sbk S) i).length ≤ 3) ∧ ((sms S).length ≤ 12 ∧ yokF (sms S)) ∧ ((ssn S).length ≤ 12 ∧ ∀ i, i < (ssn S).length → yokT (sms S).length (sw (ssn S) i)) ∧ oB (sbk S)
set_option maxRecDepth 100000 in
theorem rS_gS {F : Nat → Nat → Int} {J : Nat → Nat → Nat} {V : Nat → Int} {S : yS} (r : rS F J V S) : gS S := ⟨r.1.2, ⟨r.2.1.1.2, fun i hi => ⟨(r.2.1.2 i hi).1.2, (r.2.1.2 i hi).2.1⟩⟩, ⟨r.2.2.1.1.2, r.2.2.1.2.1⟩, ⟨r.2.2.2.1.1.2, fun i hi => (r.2.2.2.1.2 i hi).1⟩, r.2.2.2.2.2⟩
/-- the model's row of a state -/
def rM (f : Nat → Int) (S : yS) : Prop :=
  ((f 0 = sco S ∧ f 1 = swi S ∧ f 2 = sap S) ∧ f 3 = (sbk S).length ∧ f 4 = (ssn S).length ∧ f 5 = ysum (fun i => tpa (sw (ssn S) i)) (ssn S).length ∧ f 6 = (ytx (sms S)).length ∧ (ytx (sms S)).length ≤ 80) ∧ (∀ k, k < (ytx (sms S)).length → f (7 + k) = (ytx (sms S)).getD k 0) ∧ (∀ e, e < (sbk S).length → f (87 + 40 * e + 0) = bcd (sbk S) e ∧ f (87 + 40 * e + 1) = (ytx (bph (sbk S) e)).length ∧ ∀ k, k < (ytx (bph (sbk S) e)).length → f (87 + 40 * e + (2 + k)) = (ytx (bph (sbk S) e)).getD k 0) ∧ ∀ w, w < (ssn S).length → (f (727 + 31 * w + 0) = tfi (sw (ssn S) w) ∧ f (727 + 31 * w + 1) = tsp (sw (ssn S) w) ∧ f (727 + 31 * w + 2) = tco (sw (ssn S) w) ∧ f (727 + 31 * w + 3) = tpa (sw (ssn S) w) ∧ f (727 + 31 * w + 4) = (tre (sw (ssn S) w)).length) ∧ ∀ j, j < (tre (sw (ssn S) w)).length → f (727 + 31 * w + (5 + j)) = ((tor (sw (ssn S) w)).getD j 0 : Nat) ∧ f (727 + 31 * w + (18 + j)) = ((tre (sw (ssn S) w)).getD j 0 : Nat)
set_option maxRecDepth 100000 in
theorem rM_cg {f f2 : Nat → Int} {S : yS} (g : gS S) (r : rM f S) (e : ∀ t, t < 1099 → f2 t = f t) : rM f2 S := by
  obtain ⟨⟨⟨r0, r1, r2⟩, r3, r4, r5, r6, r7⟩, rt, rb, rw⟩ := r
  obtain ⟨-, g2, g3, g4, -⟩ := g
  refine ⟨⟨⟨?_, ?_, ?_⟩, ?_, ?_, ?_, ?_, r7⟩, fun k hk => ?_, fun i hi => ⟨?_, ?_, fun k hk => ?_⟩, fun w hw => ⟨⟨?_, ?_, ?_, ?_, ?_⟩, fun j hj => ⟨?_, ?_⟩⟩⟩
  · rw [e _ (by omega)]; exact r0
  · rw [e _ (by omega)]; exact r1
  · rw [e _ (by omega)]; exact r2
  · rw [e _ (by omega)]; exact r3
  · rw [e _ (by omega)]; exact r4
  · rw [e _ (by omega)]; exact r5
  · rw [e _ (by omega)]; exact r6
  · rw [e _ (by omega)]; exact rt k hk
  · rw [e _ (by omega)]; exact (rb i hi).1
  · rw [e _ (by omega)]; exact (rb i hi).2.1
  · have x := g2.2 i hi
    have := ytx_38 x.2.1 x.2.2.2
    rw [e _ (by omega)]; exact (rb i hi).2.2 k hk
  · rw [e _ (by omega)]; exact (rw w hw).1.1
  · rw [e _ (by omega)]; exact (rw w hw).1.2.1
  · rw [e _ (by omega)]; exact (rw w hw).1.2.2.1
  · rw [e _ (by omega)]; exact (rw w hw).1.2.2.2.1
  · rw [e _ (by omega)]; exact (rw w hw).1.2.2.2.2
  · have := (g4.2 w hw).2.1.2
    rw [e _ (by omega)]; exact ((rw w hw).2 j hj).1
  · have := (g4.2 w hw).2.1.2
    rw [e _ (by omega)]; exact ((rw w hw).2 j hj).2
