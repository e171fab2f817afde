/-! Plain words as numbers -/
abbrev yW : Type := List Nat
abbrev yF : Type := List yW
def ypk (w : yW) : Nat := w.foldl (fun a x => a * 32 + (x + 1)) 0
def yokW (w : yW) : Prop := (1 ≤ w.length ∧ w.length ≤ 12) ∧ ∀ x ∈ w, x < 20
set_option maxRecDepth 100000 in
theorem ypk_nil : ypk [] = 0 := rfl
set_option maxRecDepth 100000 in
theorem ypk_snoc (w : yW) (x : Nat) : ypk (w ++ [x]) = ypk w * 32 + (x + 1) := by
  unfold ypk
  rw [List.foldl_append]
  rfl
set_option maxRecDepth 100000 in
theorem ypk_ind {P : yW → Prop} (h0 : P []) (h1 : ∀ w x, P w → P (w ++ [x])) : ∀ w, P w := by
  intro w
  have key : ∀ v : yW, P v.reverse := by
    intro v
    induction v with
    | nil => exact h0
    | cons x v ih => rw [List.reverse_cons]; exact h1 _ _ ih
  have := key w.reverse
  rwa [List.reverse_reverse] at this
def yltW (w : yW) : Prop := ∀ x ∈ w, x < 20
set_option maxRecDepth 100000 in
theorem yltW_snoc {w : yW} {x : Nat} (h : yltW (w ++ [x])) : yltW w ∧ x < 20 := ⟨fun y hy => h y (List.mem_append_left _ hy), h x (List.mem_append_right _ (List.mem_singleton.2 rfl))⟩
set_option maxRecDepth 100000 in
theorem ypk_lt (w : yW) : yltW w → ypk w < 32 ^ w.length := by
  refine ypk_ind (P := fun w => yltW w → ypk w < 32 ^ w.length) ?_ ?_ w
  · intro _; exact Nat.one_pos
  · intro w x ih h
    have h' := yltW_snoc h
    have := ih h'.1
    rw [ypk_snoc, List.length_append, List.length_singleton, Nat.pow_succ]
    omega
set_option maxRecDepth 100000 in
theorem ypk_div (w : yW) : yltW w → ∀ k, ypk w / 32 ^ k = ypk (w.take (w.length - k)) := by
  refine ypk_ind (P := fun w => yltW w → ∀ k, ypk w / 32 ^ k = ypk (w.take (w.length - k))) ?_ ?_ w
  · intro _ k; rw [List.take_nil]; exact Nat.zero_div _
  · intro w x ih h k
    have h' := yltW_snoc h
    cases k with
    | zero => rw [Nat.pow_zero, Nat.div_one, Nat.sub_zero, List.take_length]
    | succ k =>
      have e : (w ++ [x]).length - (k + 1) = w.length - k := by rw [List.length_append, List.length_singleton]; omega
      rw [e, ypk_snoc, Nat.pow_succ, Nat.mul_comm (32 ^ k) 32, ← Nat.div_div_eq_div_mul]
      have e2 : (ypk w * 32 + (x + 1)) / 32 = ypk w := by omega
      rw [e2, ih h'.1 k]
      have e3 : w.length - k ≤ w.length := by omega
      rw [List.take_append_of_le_length e3]
set_option maxRecDepth 100000 in
theorem ypk_zero (w : yW) : ypk w = 0 ↔ w = [] := by
  refine ypk_ind (P := fun w => ypk w = 0 ↔ w = []) ⟨fun _ => rfl, fun _ => rfl⟩ ?_ w
  intro w x _
  rw [ypk_snoc]
  constructor
  · intro h; omega
  · intro h; exact absurd h (by simp)
set_option maxRecDepth 100000 in
theorem ypk_inj : ∀ (w v : yW), yltW w → yltW v → ypk w = ypk v → w = v := by
  intro w
  refine ypk_ind (P := fun w => ∀ v : yW, yltW w → yltW v → ypk w = ypk v → w = v) ?_ ?_ w
  · intro v _ _ h; exact ((ypk_zero v).1 h.symm).symm
  · intro w x ih v
    refine ypk_ind (P := fun v => yltW (w ++ [x]) → yltW v → ypk (w ++ [x]) = ypk v → w ++ [x] = v) ?_ ?_ v
    · intro _ _ h; exact (ypk_zero _).1 h
    · intro v y _ hw hv h
      have hw' := yltW_snoc hw
      have hv' := yltW_snoc hv
      rw [ypk_snoc, ypk_snoc] at h
      have e1 : ypk w = ypk v := by omega
      have e2 : x = y := by omega
      rw [ih v hw'.1 hv'.1 e1, e2]
set_option maxRecDepth 100000 in
theorem ypk_dig (w : yW) (hw : yltW w) (i : Nat) (hi : i < w.length) : ypk w / 32 ^ (w.length - 1 - i) % 32 = w[i] + 1 := by
  rw [ypk_div w hw]
  have e : w.length - (w.length - 1 - i) = i + 1 := by omega
  rw [e, List.take_succ_eq_append_getElem hi, ypk_snoc]
  have := hw w[i] (List.getElem_mem hi)
  omega
set_option maxRecDepth 100000 in
theorem ypk_or (w : yW) (hw : yltW w) (hl : w.length ≤ 11) (x : Nat) (hx : x < 20) : ypk w * 32 % 18446744073709551616 ||| (x + 1) = ypk (w ++ [x]) := by
  have h1 := ypk_lt w hw
  have h2 : 32 ^ w.length ≤ 32 ^ 11 := Nat.pow_le_pow_right (by omega) hl
  have h3 : (32 : Nat) ^ 11 = 36028797018963968 := by decide
  rw [Nat.mod_eq_of_lt (by omega), ypk_snoc]
  have := Nat.two_pow_add_eq_or_of_lt (i := 5) (b := x + 1) (show x + 1 < 2 ^ 5 by omega) (ypk w)
  rw [Nat.mul_comm] at this
  exact this.symm
set_option maxRecDepth 100000 in
theorem zlc_0 (x : Nat) : zlc x 0 = 0 ↔ x = 0 := by
  unfold zlc
  repeat' split
  all_goals omega
set_option maxRecDepth 100000 in
theorem zlc_00 : zlc 0 0 = 0 := rfl
