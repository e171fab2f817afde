theorem zln_k {k : Nat} (hk : k < 121) : ∀ q ∈ zcd k, zlen q.2.1 q.2.2 = true := by
  have h := zln_ok
  rw [List.all_eq_true] at h
  have h2 := h k (List.mem_range.mpr hk)
  rw [List.all_eq_true] at h2
  exact h2
theorem zrm_k {k : Nat} (hk : k < 121) : ∀ q ∈ zcd k, zrmI k (zres k q.1 q.2.1) = true := by
  have h := zrm_ok
  rw [List.all_eq_true] at h
  have h2 := h k (List.mem_range.mpr hk)
  unfold zrm at h2
  rw [List.all_eq_true] at h2
  exact h2
theorem zfind {L : List (Nat × Instr × Nat)} {f : Instr → Option Instr} {pc len : Nat} {i : Instr} (h : (L.find? fun q => q.1 == pc).bind (fun q => (f q.2.1).map fun i => (i, q.2.2)) = some (i, len)) : ∃ r : Instr, (pc, r, len) ∈ L ∧ f r = some i := by
  rw [Option.bind_eq_some_iff] at h
  obtain ⟨⟨pc', r, len'⟩, h1, h2⟩ := h
  rw [Option.map_eq_some_iff] at h2
  obtain ⟨i', h3, h4⟩ := h2
  have hm := List.mem_of_find?_eq_some h1
  have hp := List.find?_some h1
  have hp2 : (pc' == pc) = true := hp
  rw [beq_iff_eq] at hp2
  have h5 : f r = some i' := h3
  have h6 : (i', len') = (i, len) := h4
  have h7 : i' = i := congrArg Prod.fst h6
  have h8 : len' = len := congrArg Prod.snd h6
  rw [hp2, h8] at hm
  rw [h7] at h5
  exact ⟨r, hm, h5⟩
theorem zat_raw {k pc len : Nat} {i : Instr} (h : zat k pc = some (i, len)) : ∃ r : Instr, (pc, r, len) ∈ zcd k ∧ zres k pc r = some i := by
  unfold zat at h
  exact zfind h
theorem zat_inv {k pc len : Nat} {i : Instr} (hk : k < 121) (h : zat k pc = some (i, len)) : ∃ r : Instr, decode (zb k) pc = .ok (r, len) ∧ zres k pc r = some i ∧ zlen r len = true ∧ zrmI k (some i) = true := by
  obtain ⟨r, hm, h3⟩ := zat_raw h
  have a3 := zrm_k hk _ hm
  have a4 := zln_k hk _ hm
  have a5 := zd_ok k hk _ hm
  dsimp only at a3 a4 a5
  rw [h3] at a3
  exact ⟨r, a5, h3, a4, a3⟩
