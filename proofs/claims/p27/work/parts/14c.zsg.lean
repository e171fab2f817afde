/-! Stores and loads of cells -/
set_option maxRecDepth 100000 in
theorem zsg_s {l : zH} {i : Nat} {a : zE} : (l.set i a)[i]? = l[i]?.map fun _ => a := by
  rw [List.getElem?_set]
  by_cases hi : i < l.length
  · rw [if_pos rfl, if_pos hi, List.getElem?_eq_getElem hi]; rfl
  · rw [if_pos rfl, if_neg hi, List.getElem?_eq_none (by omega)]; rfl
set_option maxRecDepth 100000 in
theorem zsg_n {l : zH} {i j : Nat} {a : zE} (hn : i ≠ j) : (l.set i a)[j]? = l[j]? := List.getElem?_set_ne hn
set_option maxRecDepth 100000 in
theorem zsg_c {l : zH} {i j : Nat} {a b : zE} (hn : j + 1 ≤ i) : (l.set i a).set j b = (l.set j b).set i a := List.set_comm a b (by omega)
set_option maxRecDepth 100000 in
theorem zsg_i {l : zH} {i : Nat} {a : zE} (hs : l[i]? = some a) : l.set i a = l := by
  refine List.ext_getElem? fun j => ?_
  rw [List.getElem?_set]
  by_cases hj : i = j
  · subst hj
    have hi : i < l.length := by
      rcases Nat.lt_or_ge i l.length with x | x
      · exact x
      · rw [List.getElem?_eq_none x] at hs; exact absurd hs (by simp)
    rw [if_pos rfl, if_pos hi, hs]
  · rw [if_neg hj]
