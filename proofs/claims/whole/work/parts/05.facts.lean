/-- words that stay true while the tables grow warmer -/
def zgood : Cond → Bool
  | .fieldLinkNest _ _ _ _ _ _ => true
  | .methodLinkNest _ _ _ _ => true
  | .arrayOver (.object _) => true
  | w => goodWord w
def zW (w : Cond) : Prop := w ∈ lw_tbl ∧ zgood w = true
def zALL : List Cond := lw_tbl.filter zgood
theorem zW_iff {w : Cond} : w ∈ zALL ↔ zW w := List.mem_filter
theorem lwm_0 {j : Nat} {w : Cond} (h : (k2_sels lw_privs)[j]? = some w) : w ∈ lw_tbl := List.mem_append_left _ (List.mem_of_getElem? h)
theorem lwm_1 {j : Nat} {w : Cond} (h : tables_1_1[j]? = some w) : w ∈ lw_tbl := List.mem_append_right _ (List.mem_append_left _ (List.mem_of_getElem? h))
theorem lwm_2 {j : Nat} {w : Cond} (h : tables_1_2[j]? = some w) : w ∈ lw_tbl := List.mem_append_right _ (List.mem_append_right _ (List.mem_append_left _ (List.mem_of_getElem? h)))
theorem lwm_3 {j : Nat} {w : Cond} (h : tables_1_3[j]? = some w) : w ∈ lw_tbl := List.mem_append_right _ (List.mem_append_right _ (List.mem_append_right _ (List.mem_append_left _ (List.mem_of_getElem? h))))
theorem lwm_4 {j : Nat} {w : Cond} (h : tables_1_4[j]? = some w) : w ∈ lw_tbl := List.mem_append_right _ (List.mem_append_right _ (List.mem_append_right _ (List.mem_append_right _ (List.mem_append_left _ (List.mem_of_getElem? h)))))
theorem lwm_5 {j : Nat} {w : Cond} (h : tables_1_5[j]? = some w) : w ∈ lw_tbl := List.mem_append_right _ (List.mem_append_right _ (List.mem_append_right _ (List.mem_append_right _ (List.mem_append_right _ (List.mem_of_getElem? h)))))
theorem zlk_mem {α : Type} {l : List (Nat × Nat × α)} {own idx : Nat} {v : α} (h : zlk l own idx = some v) : (own, idx, v) ∈ l := by
  unfold zlk at h
  rw [Option.map_eq_some_iff] at h
  obtain ⟨⟨a, b, v'⟩, h1, h2⟩ := h
  have h3 := List.find?_some h1
  have h4 := List.mem_of_find?_eq_some h1
  simp only [Bool.and_eq_true, beq_iff_eq] at h3 h2
  obtain ⟨rfl, rfl⟩ := h3
  subst h2
  exact h4
def zcns : List String := [RX0, RX1, RX2, RX3, RX4, RX5, RX6, RX7, RX8, RX9, RX10, RL]
def zcn (c : Nat) : String := zcns.getD c ""
def zflP (q : Nat × Nat × Nat × Nat) : Prop := ∃ (C : String) (T : u_T) (N : Nat), vwCl[q.2.2.1]? = some (C, T, N) ∧ q.2.2.2 < N ∧ (zW (.fieldLink (zcn q.1) q.2.1 (T q.2.2.2).1 (T q.2.2.2).2.1 (T q.2.2.2).2.2.1) ∨ ∃ host, zW (.fieldLinkNest (zcn q.1) q.2.1 (T q.2.2.2).1 (T q.2.2.2).2.1 (T q.2.2.2).2.2.1 host) ∧ q.1 ≠ q.2.2.1)
theorem zfl_0 : zflP (0, 9, 0, 0) := ⟨RX0, TX0, 3, rfl, Nat.le_of_ble_eq_true rfl, Or.inl ⟨lwm_1 (j := 34) rfl, rfl⟩⟩
theorem zfl_1 : zflP (0, 15, 0, 1) := ⟨RX0, TX0, 3, rfl, Nat.le_of_ble_eq_true rfl, Or.inl ⟨lwm_1 (j := 36) rfl, rfl⟩⟩
theorem zfl_2 : zflP (0, 19, 0, 2) := ⟨RX0, TX0, 3, rfl, Nat.le_of_ble_eq_true rfl, Or.inl ⟨lwm_1 (j := 37) rfl, rfl⟩⟩
theorem zfl_3 : zflP (1, 9, 1, 0) := ⟨RX1, TX1, 1, rfl, Nat.le_of_ble_eq_true rfl, Or.inl ⟨lwm_1 (j := 195) rfl, rfl⟩⟩
theorem zfl_4 : zflP (1, 15, 0, 2) := ⟨RX0, TX0, 3, rfl, Nat.le_of_ble_eq_true rfl, Or.inr ⟨_, ⟨lwm_1 (j := 38) rfl, rfl⟩, by decide⟩⟩
theorem zfl_5 : zflP (2, 11, 2, 0) := ⟨RX2, TX2, 3, rfl, Nat.le_of_ble_eq_true rfl, Or.inl ⟨lwm_1 (j := 141) rfl, rfl⟩⟩
theorem zfl_6 : zflP (2, 17, 2, 1) := ⟨RX2, TX2, 3, rfl, Nat.le_of_ble_eq_true rfl, Or.inl ⟨lwm_1 (j := 142) rfl, rfl⟩⟩
theorem zfl_7 : zflP (2, 21, 2, 2) := ⟨RX2, TX2, 3, rfl, Nat.le_of_ble_eq_true rfl, Or.inl ⟨lwm_1 (j := 143) rfl, rfl⟩⟩
theorem zfl_8 : zflP (3, 9, 3, 0) := ⟨RX3, TX3, 2, rfl, Nat.le_of_ble_eq_true rfl, Or.inl ⟨lwm_1 (j := 158) rfl, rfl⟩⟩
theorem zfl_9 : zflP (3, 15, 3, 1) := ⟨RX3, TX3, 2, rfl, Nat.le_of_ble_eq_true rfl, Or.inl ⟨lwm_1 (j := 159) rfl, rfl⟩⟩
theorem zfl_10 : zflP (3, 27, 8, 1) := ⟨RX8, TX8, 2, rfl, Nat.le_of_ble_eq_true rfl, Or.inr ⟨_, ⟨lwm_1 (j := 66) rfl, rfl⟩, by decide⟩⟩
theorem zfl_11 : zflP (4, 9, 4, 0) := ⟨RX4, TX4, 4, rfl, Nat.le_of_ble_eq_true rfl, Or.inl ⟨lwm_1 (j := 206) rfl, rfl⟩⟩
theorem zfl_12 : zflP (4, 15, 4, 1) := ⟨RX4, TX4, 4, rfl, Nat.le_of_ble_eq_true rfl, Or.inl ⟨lwm_1 (j := 208) rfl, rfl⟩⟩
theorem zfl_13 : zflP (4, 18, 4, 2) := ⟨RX4, TX4, 4, rfl, Nat.le_of_ble_eq_true rfl, Or.inl ⟨lwm_1 (j := 210) rfl, rfl⟩⟩
theorem zfl_14 : zflP (4, 21, 4, 3) := ⟨RX4, TX4, 4, rfl, Nat.le_of_ble_eq_true rfl, Or.inl ⟨lwm_1 (j := 212) rfl, rfl⟩⟩
theorem zfl_15 : zflP (4, 25, 6, 2) := ⟨RX6, TX6, 3, rfl, Nat.le_of_ble_eq_true rfl, Or.inr ⟨_, ⟨lwm_1 (j := 124) rfl, rfl⟩, by decide⟩⟩
theorem zfl_16 : zflP (4, 49, 7, 5) := ⟨RX7, TX7, 9, rfl, Nat.le_of_ble_eq_true rfl, Or.inr ⟨_, ⟨lwm_1 (j := 90) rfl, rfl⟩, by decide⟩⟩
theorem zfl_17 : zflP (4, 57, 6, 1) := ⟨RX6, TX6, 3, rfl, Nat.le_of_ble_eq_true rfl, Or.inr ⟨_, ⟨lwm_1 (j := 121) rfl, rfl⟩, by decide⟩⟩
theorem zfl_18 : zflP (4, 61, 0, 2) := ⟨RX0, TX0, 3, rfl, Nat.le_of_ble_eq_true rfl, Or.inr ⟨_, ⟨lwm_1 (j := 40) rfl, rfl⟩, by decide⟩⟩
theorem zfl_19 : zflP (4, 77, 7, 1) := ⟨RX7, TX7, 9, rfl, Nat.le_of_ble_eq_true rfl, Or.inr ⟨_, ⟨lwm_1 (j := 79) rfl, rfl⟩, by decide⟩⟩
theorem zfl_20 : zflP (4, 80, 7, 0) := ⟨RX7, TX7, 9, rfl, Nat.le_of_ble_eq_true rfl, Or.inr ⟨_, ⟨lwm_1 (j := 75) rfl, rfl⟩, by decide⟩⟩
theorem zfl_21 : zflP (4, 84, 7, 2) := ⟨RX7, TX7, 9, rfl, Nat.le_of_ble_eq_true rfl, Or.inr ⟨_, ⟨lwm_1 (j := 82) rfl, rfl⟩, by decide⟩⟩
theorem zfl_22 : zflP (5, 9, 5, 0) := ⟨RX5, TX5, 4, rfl, Nat.le_of_ble_eq_true rfl, Or.inl ⟨lwm_1 (j := 174) rfl, rfl⟩⟩
theorem zfl_23 : zflP (5, 15, 5, 1) := ⟨RX5, TX5, 4, rfl, Nat.le_of_ble_eq_true rfl, Or.inl ⟨lwm_1 (j := 175) rfl, rfl⟩⟩
theorem zfl_24 : zflP (5, 18, 5, 2) := ⟨RX5, TX5, 4, rfl, Nat.le_of_ble_eq_true rfl, Or.inl ⟨lwm_1 (j := 176) rfl, rfl⟩⟩
theorem zfl_25 : zflP (5, 21, 5, 3) := ⟨RX5, TX5, 4, rfl, Nat.le_of_ble_eq_true rfl, Or.inl ⟨lwm_1 (j := 178) rfl, rfl⟩⟩
theorem zfl_26 : zflP (5, 24, 8, 1) := ⟨RX8, TX8, 2, rfl, Nat.le_of_ble_eq_true rfl, Or.inr ⟨_, ⟨lwm_1 (j := 64) rfl, rfl⟩, by decide⟩⟩
theorem zfl_27 : zflP (5, 48, 6, 1) := ⟨RX6, TX6, 3, rfl, Nat.le_of_ble_eq_true rfl, Or.inr ⟨_, ⟨lwm_1 (j := 119) rfl, rfl⟩, by decide⟩⟩
theorem zfl_28 : zflP (6, 9, 6, 0) := ⟨RX6, TX6, 3, rfl, Nat.le_of_ble_eq_true rfl, Or.inl ⟨lwm_1 (j := 116) rfl, rfl⟩⟩
theorem zfl_29 : zflP (6, 18, 6, 1) := ⟨RX6, TX6, 3, rfl, Nat.le_of_ble_eq_true rfl, Or.inl ⟨lwm_1 (j := 118) rfl, rfl⟩⟩
theorem zfl_30 : zflP (6, 25, 6, 2) := ⟨RX6, TX6, 3, rfl, Nat.le_of_ble_eq_true rfl, Or.inl ⟨lwm_1 (j := 123) rfl, rfl⟩⟩
theorem zfl_31 : zflP (6, 54, 7, 0) := ⟨RX7, TX7, 9, rfl, Nat.le_of_ble_eq_true rfl, Or.inr ⟨_, ⟨lwm_1 (j := 76) rfl, rfl⟩, by decide⟩⟩
theorem zfl_32 : zflP (6, 58, 8, 1) := ⟨RX8, TX8, 2, rfl, Nat.le_of_ble_eq_true rfl, Or.inr ⟨_, ⟨lwm_1 (j := 67) rfl, rfl⟩, by decide⟩⟩
theorem zfl_33 : zflP (6, 67, 7, 8) := ⟨RX7, TX7, 9, rfl, Nat.le_of_ble_eq_true rfl, Or.inr ⟨_, ⟨lwm_1 (j := 95) rfl, rfl⟩, by decide⟩⟩
theorem zfl_34 : zflP (6, 68, 7, 1) := ⟨RX7, TX7, 9, rfl, Nat.le_of_ble_eq_true rfl, Or.inr ⟨_, ⟨lwm_1 (j := 80) rfl, rfl⟩, by decide⟩⟩
theorem zfl_35 : zflP (6, 71, 7, 2) := ⟨RX7, TX7, 9, rfl, Nat.le_of_ble_eq_true rfl, Or.inr ⟨_, ⟨lwm_1 (j := 83) rfl, rfl⟩, by decide⟩⟩
theorem zfl_36 : zflP (6, 74, 7, 3) := ⟨RX7, TX7, 9, rfl, Nat.le_of_ble_eq_true rfl, Or.inr ⟨_, ⟨lwm_1 (j := 86) rfl, rfl⟩, by decide⟩⟩
theorem zfl_37 : zflP (7, 12, 7, 0) := ⟨RX7, TX7, 9, rfl, Nat.le_of_ble_eq_true rfl, Or.inl ⟨lwm_1 (j := 74) rfl, rfl⟩⟩
theorem zfl_38 : zflP (7, 18, 7, 1) := ⟨RX7, TX7, 9, rfl, Nat.le_of_ble_eq_true rfl, Or.inl ⟨lwm_1 (j := 78) rfl, rfl⟩⟩
theorem zfl_39 : zflP (7, 22, 7, 2) := ⟨RX7, TX7, 9, rfl, Nat.le_of_ble_eq_true rfl, Or.inl ⟨lwm_1 (j := 81) rfl, rfl⟩⟩
theorem zfl_40 : zflP (7, 25, 7, 3) := ⟨RX7, TX7, 9, rfl, Nat.le_of_ble_eq_true rfl, Or.inl ⟨lwm_1 (j := 85) rfl, rfl⟩⟩
theorem zfl_41 : zflP (7, 28, 7, 4) := ⟨RX7, TX7, 9, rfl, Nat.le_of_ble_eq_true rfl, Or.inl ⟨lwm_1 (j := 87) rfl, rfl⟩⟩
theorem zfl_42 : zflP (7, 31, 7, 5) := ⟨RX7, TX7, 9, rfl, Nat.le_of_ble_eq_true rfl, Or.inl ⟨lwm_1 (j := 89) rfl, rfl⟩⟩
theorem zfl_43 : zflP (7, 34, 7, 6) := ⟨RX7, TX7, 9, rfl, Nat.le_of_ble_eq_true rfl, Or.inl ⟨lwm_1 (j := 91) rfl, rfl⟩⟩
theorem zfl_44 : zflP (7, 37, 7, 7) := ⟨RX7, TX7, 9, rfl, Nat.le_of_ble_eq_true rfl, Or.inl ⟨lwm_1 (j := 92) rfl, rfl⟩⟩
theorem zfl_45 : zflP (7, 40, 7, 8) := ⟨RX7, TX7, 9, rfl, Nat.le_of_ble_eq_true rfl, Or.inl ⟨lwm_1 (j := 94) rfl, rfl⟩⟩
theorem zfl_46 : zflP (7, 56, 8, 1) := ⟨RX8, TX8, 2, rfl, Nat.le_of_ble_eq_true rfl, Or.inr ⟨_, ⟨lwm_1 (j := 68) rfl, rfl⟩, by decide⟩⟩
theorem zfl_47 : zflP (7, 57, 5, 3) := ⟨RX5, TX5, 4, rfl, Nat.le_of_ble_eq_true rfl, Or.inr ⟨_, ⟨lwm_1 (j := 179) rfl, rfl⟩, by decide⟩⟩
theorem zfl_48 : zflP (7, 66, 5, 2) := ⟨RX5, TX5, 4, rfl, Nat.le_of_ble_eq_true rfl, Or.inr ⟨_, ⟨lwm_1 (j := 177) rfl, rfl⟩, by decide⟩⟩
theorem zfl_49 : zflP (7, 81, 6, 1) := ⟨RX6, TX6, 3, rfl, Nat.le_of_ble_eq_true rfl, Or.inr ⟨_, ⟨lwm_1 (j := 122) rfl, rfl⟩, by decide⟩⟩
theorem zfl_50 : zflP (8, 9, 8, 0) := ⟨RX8, TX8, 2, rfl, Nat.le_of_ble_eq_true rfl, Or.inl ⟨lwm_1 (j := 62) rfl, rfl⟩⟩
theorem zfl_51 : zflP (8, 15, 8, 1) := ⟨RX8, TX8, 2, rfl, Nat.le_of_ble_eq_true rfl, Or.inl ⟨lwm_1 (j := 63) rfl, rfl⟩⟩
theorem zfl_52 : zflP (9, 12, 9, 0) := ⟨RX9, TX9, 8, rfl, Nat.le_of_ble_eq_true rfl, Or.inl ⟨lwm_1 (j := 223) rfl, rfl⟩⟩
theorem zfl_53 : zflP (9, 19, 9, 1) := ⟨RX9, TX9, 8, rfl, Nat.le_of_ble_eq_true rfl, Or.inl ⟨lwm_1 (j := 224) rfl, rfl⟩⟩
theorem zfl_54 : zflP (9, 23, 9, 2) := ⟨RX9, TX9, 8, rfl, Nat.le_of_ble_eq_true rfl, Or.inl ⟨lwm_1 (j := 225) rfl, rfl⟩⟩
theorem zfl_55 : zflP (9, 30, 9, 3) := ⟨RX9, TX9, 8, rfl, Nat.le_of_ble_eq_true rfl, Or.inl ⟨lwm_1 (j := 226) rfl, rfl⟩⟩
theorem zfl_56 : zflP (9, 37, 9, 4) := ⟨RX9, TX9, 8, rfl, Nat.le_of_ble_eq_true rfl, Or.inl ⟨lwm_1 (j := 227) rfl, rfl⟩⟩
theorem zfl_57 : zflP (9, 44, 9, 5) := ⟨RX9, TX9, 8, rfl, Nat.le_of_ble_eq_true rfl, Or.inl ⟨lwm_1 (j := 228) rfl, rfl⟩⟩
theorem zfl_58 : zflP (9, 51, 9, 6) := ⟨RX9, TX9, 8, rfl, Nat.le_of_ble_eq_true rfl, Or.inl ⟨lwm_1 (j := 229) rfl, rfl⟩⟩
theorem zfl_59 : zflP (9, 58, 9, 7) := ⟨RX9, TX9, 8, rfl, Nat.le_of_ble_eq_true rfl, Or.inl ⟨lwm_1 (j := 230) rfl, rfl⟩⟩
theorem zfl_60 : zflP (9, 77, 6, 0) := ⟨RX6, TX6, 3, rfl, Nat.le_of_ble_eq_true rfl, Or.inr ⟨_, ⟨lwm_1 (j := 117) rfl, rfl⟩, by decide⟩⟩
theorem zfl_61 : zflP (9, 88, 8, 1) := ⟨RX8, TX8, 2, rfl, Nat.le_of_ble_eq_true rfl, Or.inr ⟨_, ⟨lwm_1 (j := 65) rfl, rfl⟩, by decide⟩⟩
theorem zfl_62 : zflP (9, 92, 6, 1) := ⟨RX6, TX6, 3, rfl, Nat.le_of_ble_eq_true rfl, Or.inr ⟨_, ⟨lwm_1 (j := 120) rfl, rfl⟩, by decide⟩⟩
theorem zfl_63 : zflP (9, 96, 0, 2) := ⟨RX0, TX0, 3, rfl, Nat.le_of_ble_eq_true rfl, Or.inr ⟨_, ⟨lwm_1 (j := 39) rfl, rfl⟩, by decide⟩⟩
theorem zfl_64 : zflP (9, 119, 3, 1) := ⟨RX3, TX3, 2, rfl, Nat.le_of_ble_eq_true rfl, Or.inr ⟨_, ⟨lwm_1 (j := 160) rfl, rfl⟩, by decide⟩⟩
theorem zfl_65 : zflP (9, 136, 0, 0) := ⟨RX0, TX0, 3, rfl, Nat.le_of_ble_eq_true rfl, Or.inr ⟨_, ⟨lwm_1 (j := 35) rfl, rfl⟩, by decide⟩⟩
theorem zfl_66 : zflP (9, 143, 6, 2) := ⟨RX6, TX6, 3, rfl, Nat.le_of_ble_eq_true rfl, Or.inr ⟨_, ⟨lwm_1 (j := 125) rfl, rfl⟩, by decide⟩⟩
theorem zfl_67 : zflP (9, 147, 7, 0) := ⟨RX7, TX7, 9, rfl, Nat.le_of_ble_eq_true rfl, Or.inr ⟨_, ⟨lwm_1 (j := 77) rfl, rfl⟩, by decide⟩⟩
theorem zfl_68 : zflP (9, 166, 7, 7) := ⟨RX7, TX7, 9, rfl, Nat.le_of_ble_eq_true rfl, Or.inr ⟨_, ⟨lwm_1 (j := 93) rfl, rfl⟩, by decide⟩⟩
theorem zfl_69 : zflP (9, 187, 7, 8) := ⟨RX7, TX7, 9, rfl, Nat.le_of_ble_eq_true rfl, Or.inr ⟨_, ⟨lwm_1 (j := 96) rfl, rfl⟩, by decide⟩⟩
theorem zfl_70 : zflP (9, 200, 2, 2) := ⟨RX2, TX2, 3, rfl, Nat.le_of_ble_eq_true rfl, Or.inr ⟨_, ⟨lwm_1 (j := 144) rfl, rfl⟩, by decide⟩⟩
theorem zfl_71 : zflP (9, 206, 4, 0) := ⟨RX4, TX4, 4, rfl, Nat.le_of_ble_eq_true rfl, Or.inr ⟨_, ⟨lwm_1 (j := 207) rfl, rfl⟩, by decide⟩⟩
theorem zfl_72 : zflP (9, 209, 4, 1) := ⟨RX4, TX4, 4, rfl, Nat.le_of_ble_eq_true rfl, Or.inr ⟨_, ⟨lwm_1 (j := 209) rfl, rfl⟩, by decide⟩⟩
theorem zfl_73 : zflP (9, 212, 4, 2) := ⟨RX4, TX4, 4, rfl, Nat.le_of_ble_eq_true rfl, Or.inr ⟨_, ⟨lwm_1 (j := 211) rfl, rfl⟩, by decide⟩⟩
theorem zfl_74 : zflP (9, 215, 7, 2) := ⟨RX7, TX7, 9, rfl, Nat.le_of_ble_eq_true rfl, Or.inr ⟨_, ⟨lwm_1 (j := 84) rfl, rfl⟩, by decide⟩⟩
theorem zfl_75 : zflP (9, 218, 4, 3) := ⟨RX4, TX4, 4, rfl, Nat.le_of_ble_eq_true rfl, Or.inr ⟨_, ⟨lwm_1 (j := 213) rfl, rfl⟩, by decide⟩⟩
theorem zfl_76 : zflP (9, 222, 7, 4) := ⟨RX7, TX7, 9, rfl, Nat.le_of_ble_eq_true rfl, Or.inr ⟨_, ⟨lwm_1 (j := 88) rfl, rfl⟩, by decide⟩⟩
theorem zfl_77 : zflP (10, 7, 10, 0) := ⟨RX10, TX10, 17, rfl, Nat.le_of_ble_eq_true rfl, Or.inl ⟨lwm_3 (j := 191) rfl, rfl⟩⟩
theorem zfl_78 : zflP (10, 13, 10, 1) := ⟨RX10, TX10, 17, rfl, Nat.le_of_ble_eq_true rfl, Or.inl ⟨lwm_3 (j := 192) rfl, rfl⟩⟩
theorem zfl_79 : zflP (10, 16, 10, 3) := ⟨RX10, TX10, 17, rfl, Nat.le_of_ble_eq_true rfl, Or.inl ⟨lwm_3 (j := 194) rfl, rfl⟩⟩
theorem zfl_80 : zflP (10, 19, 10, 4) := ⟨RX10, TX10, 17, rfl, Nat.le_of_ble_eq_true rfl, Or.inl ⟨lwm_3 (j := 195) rfl, rfl⟩⟩
theorem zfl_81 : zflP (10, 22, 10, 5) := ⟨RX10, TX10, 17, rfl, Nat.le_of_ble_eq_true rfl, Or.inl ⟨lwm_3 (j := 196) rfl, rfl⟩⟩
theorem zfl_82 : zflP (10, 25, 10, 7) := ⟨RX10, TX10, 17, rfl, Nat.le_of_ble_eq_true rfl, Or.inl ⟨lwm_3 (j := 198) rfl, rfl⟩⟩
theorem zfl_83 : zflP (10, 28, 10, 10) := ⟨RX10, TX10, 17, rfl, Nat.le_of_ble_eq_true rfl, Or.inl ⟨lwm_3 (j := 201) rfl, rfl⟩⟩
theorem zfl_84 : zflP (10, 31, 10, 11) := ⟨RX10, TX10, 17, rfl, Nat.le_of_ble_eq_true rfl, Or.inl ⟨lwm_3 (j := 202) rfl, rfl⟩⟩
theorem zfl_85 : zflP (10, 34, 10, 12) := ⟨RX10, TX10, 17, rfl, Nat.le_of_ble_eq_true rfl, Or.inl ⟨lwm_3 (j := 203) rfl, rfl⟩⟩
theorem zfl_86 : zflP (10, 37, 10, 13) := ⟨RX10, TX10, 17, rfl, Nat.le_of_ble_eq_true rfl, Or.inl ⟨lwm_3 (j := 204) rfl, rfl⟩⟩
theorem zfl_87 : zflP (10, 40, 10, 14) := ⟨RX10, TX10, 17, rfl, Nat.le_of_ble_eq_true rfl, Or.inl ⟨lwm_3 (j := 205) rfl, rfl⟩⟩
theorem zfl_88 : zflP (10, 43, 10, 15) := ⟨RX10, TX10, 17, rfl, Nat.le_of_ble_eq_true rfl, Or.inl ⟨lwm_3 (j := 206) rfl, rfl⟩⟩
theorem zfl_89 : zflP (10, 46, 10, 16) := ⟨RX10, TX10, 17, rfl, Nat.le_of_ble_eq_true rfl, Or.inl ⟨lwm_3 (j := 207) rfl, rfl⟩⟩
theorem zfl_90 : zflP (10, 49, 10, 2) := ⟨RX10, TX10, 17, rfl, Nat.le_of_ble_eq_true rfl, Or.inl ⟨lwm_3 (j := 193) rfl, rfl⟩⟩
theorem zfl_91 : zflP (10, 61, 10, 6) := ⟨RX10, TX10, 17, rfl, Nat.le_of_ble_eq_true rfl, Or.inl ⟨lwm_3 (j := 197) rfl, rfl⟩⟩
theorem zfl_92 : zflP (10, 68, 10, 9) := ⟨RX10, TX10, 17, rfl, Nat.le_of_ble_eq_true rfl, Or.inl ⟨lwm_3 (j := 200) rfl, rfl⟩⟩
theorem zfl_93 : zflP (10, 71, 10, 8) := ⟨RX10, TX10, 17, rfl, Nat.le_of_ble_eq_true rfl, Or.inl ⟨lwm_3 (j := 199) rfl, rfl⟩⟩
set_option maxRecDepth 20000 in
theorem zfl_ok : ∀ q ∈ zfl, zflP q := List.forall_mem_cons.mpr ⟨zfl_0, List.forall_mem_cons.mpr ⟨zfl_1, List.forall_mem_cons.mpr ⟨zfl_2, List.forall_mem_cons.mpr ⟨zfl_3, List.forall_mem_cons.mpr ⟨zfl_4, List.forall_mem_cons.mpr ⟨zfl_5, List.forall_mem_cons.mpr ⟨zfl_6, List.forall_mem_cons.mpr ⟨zfl_7, List.forall_mem_cons.mpr ⟨zfl_8, List.forall_mem_cons.mpr ⟨zfl_9, List.forall_mem_cons.mpr ⟨zfl_10, List.forall_mem_cons.mpr ⟨zfl_11, List.forall_mem_cons.mpr ⟨zfl_12, List.forall_mem_cons.mpr ⟨zfl_13, List.forall_mem_cons.mpr ⟨zfl_14, List.forall_mem_cons.mpr ⟨zfl_15, List.forall_mem_cons.mpr ⟨zfl_16, List.forall_mem_cons.mpr ⟨zfl_17, List.forall_mem_cons.mpr ⟨zfl_18, List.forall_mem_cons.mpr ⟨zfl_19, List.forall_mem_cons.mpr ⟨zfl_20, List.forall_mem_cons.mpr ⟨zfl_21, List.forall_mem_cons.mpr ⟨zfl_22, List.forall_mem_cons.mpr ⟨zfl_23, List.forall_mem_cons.mpr ⟨zfl_24, List.forall_mem_cons.mpr ⟨zfl_25, List.forall_mem_cons.mpr ⟨zfl_26, List.forall_mem_cons.mpr ⟨zfl_27, List.forall_mem_cons.mpr ⟨zfl_28, List.forall_mem_cons.mpr ⟨zfl_29, List.forall_mem_cons.mpr ⟨zfl_30, List.forall_mem_cons.mpr ⟨zfl_31, List.forall_mem_cons.mpr ⟨zfl_32, List.forall_mem_cons.mpr ⟨zfl_33, List.forall_mem_cons.mpr ⟨zfl_34, List.forall_mem_cons.mpr ⟨zfl_35, List.forall_mem_cons.mpr ⟨zfl_36, List.forall_mem_cons.mpr ⟨zfl_37, List.forall_mem_cons.mpr ⟨zfl_38, List.forall_mem_cons.mpr ⟨zfl_39, List.forall_mem_cons.mpr ⟨zfl_40, List.forall_mem_cons.mpr ⟨zfl_41, List.forall_mem_cons.mpr ⟨zfl_42, List.forall_mem_cons.mpr ⟨zfl_43, List.forall_mem_cons.mpr ⟨zfl_44, List.forall_mem_cons.mpr ⟨zfl_45, List.forall_mem_cons.mpr ⟨zfl_46, List.forall_mem_cons.mpr ⟨zfl_47, List.forall_mem_cons.mpr ⟨zfl_48, List.forall_mem_cons.mpr ⟨zfl_49, List.forall_mem_cons.mpr ⟨zfl_50, List.forall_mem_cons.mpr ⟨zfl_51, List.forall_mem_cons.mpr ⟨zfl_52, List.forall_mem_cons.mpr ⟨zfl_53, List.forall_mem_cons.mpr ⟨zfl_54, List.forall_mem_cons.mpr ⟨zfl_55, List.forall_mem_cons.mpr ⟨zfl_56, List.forall_mem_cons.mpr ⟨zfl_57, List.forall_mem_cons.mpr ⟨zfl_58, List.forall_mem_cons.mpr ⟨zfl_59, List.forall_mem_cons.mpr ⟨zfl_60, List.forall_mem_cons.mpr ⟨zfl_61, List.forall_mem_cons.mpr ⟨zfl_62, List.forall_mem_cons.mpr ⟨zfl_63, List.forall_mem_cons.mpr ⟨zfl_64, List.forall_mem_cons.mpr ⟨zfl_65, List.forall_mem_cons.mpr ⟨zfl_66, List.forall_mem_cons.mpr ⟨zfl_67, List.forall_mem_cons.mpr ⟨zfl_68, List.forall_mem_cons.mpr ⟨zfl_69, List.forall_mem_cons.mpr ⟨zfl_70, List.forall_mem_cons.mpr ⟨zfl_71, List.forall_mem_cons.mpr ⟨zfl_72, List.forall_mem_cons.mpr ⟨zfl_73, List.forall_mem_cons.mpr ⟨zfl_74, List.forall_mem_cons.mpr ⟨zfl_75, List.forall_mem_cons.mpr ⟨zfl_76, List.forall_mem_cons.mpr ⟨zfl_77, List.forall_mem_cons.mpr ⟨zfl_78, List.forall_mem_cons.mpr ⟨zfl_79, List.forall_mem_cons.mpr ⟨zfl_80, List.forall_mem_cons.mpr ⟨zfl_81, List.forall_mem_cons.mpr ⟨zfl_82, List.forall_mem_cons.mpr ⟨zfl_83, List.forall_mem_cons.mpr ⟨zfl_84, List.forall_mem_cons.mpr ⟨zfl_85, List.forall_mem_cons.mpr ⟨zfl_86, List.forall_mem_cons.mpr ⟨zfl_87, List.forall_mem_cons.mpr ⟨zfl_88, List.forall_mem_cons.mpr ⟨zfl_89, List.forall_mem_cons.mpr ⟨zfl_90, List.forall_mem_cons.mpr ⟨zfl_91, List.forall_mem_cons.mpr ⟨zfl_92, List.forall_mem_cons.mpr ⟨zfl_93, fun _ h => absurd h List.not_mem_nil⟩⟩⟩⟩⟩⟩⟩⟩⟩⟩⟩⟩⟩⟩⟩⟩⟩⟩⟩⟩⟩⟩⟩⟩⟩⟩⟩⟩⟩⟩⟩⟩⟩⟩⟩⟩⟩⟩⟩⟩⟩⟩⟩⟩⟩⟩⟩⟩⟩⟩⟩⟩⟩⟩⟩⟩⟩⟩⟩⟩⟩⟩⟩⟩⟩⟩⟩⟩⟩⟩⟩⟩⟩⟩⟩⟩⟩⟩⟩⟩⟩⟩⟩⟩⟩⟩⟩⟩⟩⟩⟩⟩⟩⟩
def zmlP (q : Nat × Nat × Nat) : Prop := zW (.methodLink (zcn q.1) q.2.1 (zy q.2.2)) ∨ ∃ host, zW (.methodLinkNest (zcn q.1) q.2.1 (zy q.2.2) host)
theorem zml_0 : zmlP (0, 23, 96) := Or.inr ⟨_, ⟨lwm_2 (j := 98) rfl, rfl⟩⟩
theorem zml_1 : zmlP (0, 27, 97) := Or.inr ⟨_, ⟨lwm_2 (j := 129) rfl, rfl⟩⟩
theorem zml_2 : zmlP (0, 30, 3) := Or.inl ⟨lwm_2 (j := 125) rfl, rfl⟩
theorem zml_3 : zmlP (0, 34, 93) := Or.inr ⟨_, ⟨lwm_3 (j := 38) rfl, rfl⟩⟩
theorem zml_4 : zmlP (0, 38, 4) := Or.inl ⟨lwm_3 (j := 59) rfl, rfl⟩
theorem zml_5 : zmlP (0, 42, 94) := Or.inr ⟨_, ⟨lwm_3 (j := 60) rfl, rfl⟩⟩
theorem zml_6 : zmlP (0, 46, 56) := Or.inl ⟨lwm_2 (j := 121) rfl, rfl⟩
theorem zml_7 : zmlP (0, 51, 7) := Or.inl ⟨lwm_2 (j := 117) rfl, rfl⟩
theorem zml_8 : zmlP (0, 55, 2) := Or.inl ⟨lwm_2 (j := 153) rfl, rfl⟩
theorem zml_9 : zmlP (0, 58, 90) := Or.inr ⟨_, ⟨lwm_2 (j := 154) rfl, rfl⟩⟩
theorem zml_10 : zmlP (0, 67, 9) := Or.inl ⟨lwm_3 (j := 78) rfl, rfl⟩
theorem zml_11 : zmlP (0, 70, 98) := Or.inr ⟨_, ⟨lwm_2 (j := 136) rfl, rfl⟩⟩
theorem zml_12 : zmlP (0, 74, 99) := Or.inr ⟨_, ⟨lwm_2 (j := 137) rfl, rfl⟩⟩
theorem zml_13 : zmlP (0, 77, 100) := Or.inr ⟨_, ⟨lwm_2 (j := 41) rfl, rfl⟩⟩
theorem zml_14 : zmlP (0, 81, 101) := Or.inr ⟨_, ⟨lwm_2 (j := 42) rfl, rfl⟩⟩
theorem zml_15 : zmlP (1, 21, 2) := Or.inl ⟨lwm_2 (j := 94) rfl, rfl⟩
theorem zml_16 : zmlP (1, 25, 16) := Or.inl ⟨lwm_2 (j := 99) rfl, rfl⟩
theorem zml_17 : zmlP (1, 29, 91) := Or.inr ⟨_, ⟨lwm_2 (j := 103) rfl, rfl⟩⟩
theorem zml_18 : zmlP (2, 24, 36) := Or.inr ⟨_, ⟨lwm_2 (j := 23) rfl, rfl⟩⟩
theorem zml_19 : zmlP (2, 25, 43) := Or.inl ⟨lwm_2 (j := 24) rfl, rfl⟩
theorem zml_20 : zmlP (3, 19, 98) := Or.inr ⟨_, ⟨lwm_3 (j := 159) rfl, rfl⟩⟩
theorem zml_21 : zmlP (3, 23, 96) := Or.inr ⟨_, ⟨lwm_2 (j := 70) rfl, rfl⟩⟩
theorem zml_22 : zmlP (3, 32, 57) := Or.inl ⟨lwm_2 (j := 75) rfl, rfl⟩
theorem zml_23 : zmlP (3, 36, 92) := Or.inr ⟨_, ⟨lwm_2 (j := 82) rfl, rfl⟩⟩
theorem zml_24 : zmlP (4, 31, 27) := Or.inl ⟨lwm_3 (j := 97) rfl, rfl⟩
theorem zml_25 : zmlP (4, 35, 28) := Or.inl ⟨lwm_3 (j := 102) rfl, rfl⟩
theorem zml_26 : zmlP (4, 39, 31) := Or.inl ⟨lwm_3 (j := 115) rfl, rfl⟩
theorem zml_27 : zmlP (4, 43, 47) := Or.inl ⟨lwm_3 (j := 100) rfl, rfl⟩
theorem zml_28 : zmlP (4, 53, 96) := Or.inr ⟨_, ⟨lwm_3 (j := 101) rfl, rfl⟩⟩
theorem zml_29 : zmlP (4, 66, 2) := Or.inl ⟨lwm_3 (j := 106) rfl, rfl⟩
theorem zml_30 : zmlP (4, 70, 29) := Or.inl ⟨lwm_3 (j := 107) rfl, rfl⟩
theorem zml_31 : zmlP (4, 74, 30) := Or.inl ⟨lwm_3 (j := 111) rfl, rfl⟩
theorem zml_32 : zmlP (4, 87, 7) := Or.inl ⟨lwm_3 (j := 114) rfl, rfl⟩
theorem zml_33 : zmlP (4, 91, 89) := Or.inr ⟨_, ⟨lwm_3 (j := 110) rfl, rfl⟩⟩
theorem zml_34 : zmlP (4, 94, 92) := Or.inr ⟨_, ⟨lwm_3 (j := 119) rfl, rfl⟩⟩
theorem zml_35 : zmlP (4, 98, 95) := Or.inr ⟨_, ⟨lwm_3 (j := 120) rfl, rfl⟩⟩
theorem zml_36 : zmlP (4, 102, 56) := Or.inl ⟨lwm_3 (j := 121) rfl, rfl⟩
theorem zml_37 : zmlP (5, 30, 98) := Or.inr ⟨_, ⟨lwm_2 (j := 181) rfl, rfl⟩⟩
theorem zml_38 : zmlP (5, 34, 56) := Or.inl ⟨lwm_2 (j := 182) rfl, rfl⟩
theorem zml_39 : zmlP (5, 38, 39) := Or.inl ⟨lwm_2 (j := 183) rfl, rfl⟩
theorem zml_40 : zmlP (5, 44, 35) := Or.inl ⟨lwm_2 (j := 195) rfl, rfl⟩
theorem zml_41 : zmlP (5, 52, 8) := Or.inl ⟨lwm_2 (j := 200) rfl, rfl⟩
theorem zml_42 : zmlP (5, 58, 59) := Or.inl ⟨lwm_2 (j := 201) rfl, rfl⟩
theorem zml_43 : zmlP (5, 62, 37) := Or.inl ⟨lwm_2 (j := 206) rfl, rfl⟩
theorem zml_44 : zmlP (5, 66, 34) := Or.inl ⟨lwm_2 (j := 207) rfl, rfl⟩
theorem zml_45 : zmlP (5, 69, 96) := Or.inr ⟨_, ⟨lwm_2 (j := 199) rfl, rfl⟩⟩
theorem zml_46 : zmlP (6, 17, 0) := Or.inr ⟨_, ⟨lwm_1 (j := 30) rfl, rfl⟩⟩
theorem zml_47 : zmlP (6, 24, 44) := Or.inr ⟨_, ⟨lwm_1 (j := 52) rfl, rfl⟩⟩
theorem zml_48 : zmlP (6, 29, 96) := Or.inr ⟨_, ⟨lwm_2 (j := 89) rfl, rfl⟩⟩
theorem zml_49 : zmlP (6, 39, 37) := Or.inl ⟨lwm_2 (j := 188) rfl, rfl⟩
theorem zml_50 : zmlP (6, 43, 93) := Or.inr ⟨_, ⟨lwm_2 (j := 192) rfl, rfl⟩⟩
theorem zml_51 : zmlP (6, 47, 3) := Or.inl ⟨lwm_3 (j := 43) rfl, rfl⟩
theorem zml_52 : zmlP (6, 51, 39) := Or.inl ⟨lwm_3 (j := 44) rfl, rfl⟩
theorem zml_53 : zmlP (6, 64, 56) := Or.inl ⟨lwm_3 (j := 73) rfl, rfl⟩
theorem zml_54 : zmlP (6, 77, 7) := Or.inl ⟨lwm_3 (j := 50) rfl, rfl⟩
theorem zml_55 : zmlP (6, 81, 100) := Or.inr ⟨_, ⟨lwm_2 (j := 28) rfl, rfl⟩⟩
theorem zml_56 : zmlP (6, 85, 13) := Or.inl ⟨lwm_2 (j := 37) rfl, rfl⟩
theorem zml_57 : zmlP (6, 89, 54) := Or.inl ⟨lwm_2 (j := 45) rfl, rfl⟩
theorem zml_58 : zmlP (7, 11, 55) := Or.inr ⟨_, ⟨lwm_1 (j := 58) rfl, rfl⟩⟩
theorem zml_59 : zmlP (7, 44, 45) := Or.inl ⟨lwm_3 (j := 18) rfl, rfl⟩
theorem zml_60 : zmlP (7, 48, 96) := Or.inr ⟨_, ⟨lwm_2 (j := 215) rfl, rfl⟩⟩
theorem zml_61 : zmlP (7, 52, 47) := Or.inl ⟨lwm_3 (j := 83) rfl, rfl⟩
theorem zml_62 : zmlP (7, 62, 98) := Or.inr ⟨_, ⟨lwm_2 (j := 216) rfl, rfl⟩⟩
theorem zml_63 : zmlP (7, 67, 56) := Or.inl ⟨lwm_2 (j := 217) rfl, rfl⟩
theorem zml_64 : zmlP (7, 71, 51) := Or.inl ⟨lwm_2 (j := 218) rfl, rfl⟩
theorem zml_65 : zmlP (7, 75, 39) := Or.inl ⟨lwm_2 (j := 235) rfl, rfl⟩
theorem zml_66 : zmlP (7, 85, 2) := Or.inl ⟨lwm_2 (j := 236) rfl, rfl⟩
theorem zml_67 : zmlP (7, 91, 52) := Or.inl ⟨lwm_2 (j := 237) rfl, rfl⟩
theorem zml_68 : zmlP (7, 95, 37) := Or.inl ⟨lwm_3 (j := 4) rfl, rfl⟩
theorem zml_69 : zmlP (7, 104, 100) := Or.inr ⟨_, ⟨lwm_2 (j := 54) rfl, rfl⟩⟩
theorem zml_70 : zmlP (7, 108, 93) := Or.inr ⟨_, ⟨lwm_2 (j := 222) rfl, rfl⟩⟩
theorem zml_71 : zmlP (7, 111, 94) := Or.inr ⟨_, ⟨lwm_2 (j := 223) rfl, rfl⟩⟩
theorem zml_72 : zmlP (7, 115, 53) := Or.inl ⟨lwm_2 (j := 227) rfl, rfl⟩
theorem zml_73 : zmlP (7, 118, 95) := Or.inr ⟨_, ⟨lwm_2 (j := 231) rfl, rfl⟩⟩
theorem zml_74 : zmlP (7, 121, 89) := Or.inr ⟨_, ⟨lwm_3 (j := 1) rfl, rfl⟩⟩
theorem zml_75 : zmlP (7, 124, 58) := Or.inl ⟨lwm_2 (j := 49) rfl, rfl⟩
theorem zml_76 : zmlP (8, 19, 99) := Or.inr ⟨_, ⟨lwm_2 (j := 79) rfl, rfl⟩⟩
theorem zml_77 : zmlP (8, 23, 101) := Or.inr ⟨_, ⟨lwm_2 (j := 53) rfl, rfl⟩⟩
theorem zml_78 : zmlP (8, 27, 56) := Or.inl ⟨lwm_2 (j := 205) rfl, rfl⟩
theorem zml_79 : zmlP (9, 11, 36) := Or.inr ⟨_, ⟨lwm_1 (j := 24) rfl, rfl⟩⟩
theorem zml_80 : zmlP (9, 18, 18) := Or.inr ⟨_, ⟨lwm_1 (j := 135) rfl, rfl⟩⟩
theorem zml_81 : zmlP (9, 29, 21) := Or.inr ⟨_, ⟨lwm_1 (j := 154) rfl, rfl⟩⟩
theorem zml_82 : zmlP (9, 36, 55) := Or.inr ⟨_, ⟨lwm_1 (j := 167) rfl, rfl⟩⟩
theorem zml_83 : zmlP (9, 43, 32) := Or.inr ⟨_, ⟨lwm_1 (j := 170) rfl, rfl⟩⟩
theorem zml_84 : zmlP (9, 50, 14) := Or.inr ⟨_, ⟨lwm_1 (j := 191) rfl, rfl⟩⟩
theorem zml_85 : zmlP (9, 57, 25) := Or.inr ⟨_, ⟨lwm_1 (j := 202) rfl, rfl⟩⟩
theorem zml_86 : zmlP (9, 66, 96) := Or.inl ⟨lwm_2 (j := 14) rfl, rfl⟩
theorem zml_87 : zmlP (9, 73, 19) := Or.inl ⟨lwm_2 (j := 19) rfl, rfl⟩
theorem zml_88 : zmlP (9, 80, 98) := Or.inl ⟨lwm_2 (j := 55) rfl, rfl⟩
theorem zml_89 : zmlP (9, 84, 85) := Or.inl ⟨lwm_2 (j := 62) rfl, rfl⟩
theorem zml_90 : zmlP (9, 99, 38) := Or.inl ⟨lwm_2 (j := 85) rfl, rfl⟩
theorem zml_91 : zmlP (9, 103, 15) := Or.inl ⟨lwm_2 (j := 90) rfl, rfl⟩
theorem zml_92 : zmlP (9, 107, 17) := Or.inl ⟨lwm_2 (j := 106) rfl, rfl⟩
theorem zml_93 : zmlP (9, 111, 8) := Or.inl ⟨lwm_2 (j := 113) rfl, rfl⟩
theorem zml_94 : zmlP (9, 115, 11) := Or.inl ⟨lwm_2 (j := 132) rfl, rfl⟩
theorem zml_95 : zmlP (9, 122, 1) := Or.inl ⟨lwm_2 (j := 142) rfl, rfl⟩
theorem zml_96 : zmlP (9, 126, 88) := Or.inl ⟨lwm_2 (j := 146) rfl, rfl⟩
theorem zml_97 : zmlP (9, 129, 9) := Or.inl ⟨lwm_2 (j := 149) rfl, rfl⟩
theorem zml_98 : zmlP (9, 133, 2) := Or.inl ⟨lwm_2 (j := 159) rfl, rfl⟩
theorem zml_99 : zmlP (9, 139, 12) := Or.inl ⟨lwm_2 (j := 164) rfl, rfl⟩
theorem zml_100 : zmlP (9, 152, 58) := Or.inl ⟨lwm_2 (j := 172) rfl, rfl⟩
theorem zml_101 : zmlP (9, 156, 86) := Or.inl ⟨lwm_2 (j := 173) rfl, rfl⟩
theorem zml_102 : zmlP (9, 159, 46) := Or.inl ⟨lwm_3 (j := 14) rfl, rfl⟩
theorem zml_103 : zmlP (9, 163, 47) := Or.inl ⟨lwm_3 (j := 22) rfl, rfl⟩
theorem zml_104 : zmlP (9, 169, 4) := Or.inl ⟨lwm_3 (j := 30) rfl, rfl⟩
theorem zml_105 : zmlP (9, 172, 5) := Or.inl ⟨lwm_3 (j := 34) rfl, rfl⟩
theorem zml_106 : zmlP (9, 175, 40) := Or.inl ⟨lwm_3 (j := 39) rfl, rfl⟩
theorem zml_107 : zmlP (9, 178, 37) := Or.inl ⟨lwm_3 (j := 45) rfl, rfl⟩
theorem zml_108 : zmlP (9, 181, 42) := Or.inl ⟨lwm_3 (j := 46) rfl, rfl⟩
theorem zml_109 : zmlP (9, 184, 6) := Or.inl ⟨lwm_3 (j := 55) rfl, rfl⟩
theorem zml_110 : zmlP (9, 188, 48) := Or.inl ⟨lwm_3 (j := 65) rfl, rfl⟩
theorem zml_111 : zmlP (9, 191, 41) := Or.inl ⟨lwm_3 (j := 69) rfl, rfl⟩
theorem zml_112 : zmlP (9, 194, 10) := Or.inl ⟨lwm_3 (j := 74) rfl, rfl⟩
theorem zml_113 : zmlP (9, 197, 49) := Or.inl ⟨lwm_3 (j := 79) rfl, rfl⟩
theorem zml_114 : zmlP (9, 201, 45) := Or.inl ⟨lwm_3 (j := 88) rfl, rfl⟩
theorem zml_115 : zmlP (9, 202, 26) := Or.inl ⟨lwm_3 (j := 93) rfl, rfl⟩
theorem zml_116 : zmlP (9, 225, 33) := Or.inl ⟨lwm_2 (j := 177) rfl, rfl⟩
theorem zml_117 : zmlP (9, 229, 16) := Or.inl ⟨lwm_3 (j := 142) rfl, rfl⟩
theorem zml_118 : zmlP (9, 233, 90) := Or.inl ⟨lwm_3 (j := 147) rfl, rfl⟩
theorem zml_119 : zmlP (9, 236, 87) := Or.inl ⟨lwm_3 (j := 152) rfl, rfl⟩
theorem zml_120 : zmlP (9, 240, 22) := Or.inl ⟨lwm_3 (j := 155) rfl, rfl⟩
theorem zml_121 : zmlP (9, 242, 23) := Or.inl ⟨lwm_2 (j := 66) rfl, rfl⟩
theorem zml_122 : zmlP (9, 245, 20) := Or.inl ⟨lwm_3 (j := 172) rfl, rfl⟩
theorem zml_123 : zmlP (9, 249, 43) := Or.inl ⟨lwm_3 (j := 180) rfl, rfl⟩
theorem zml_124 : zmlP (9, 251, 24) := Or.inl ⟨lwm_2 (j := 71) rfl, rfl⟩
theorem zml_125 : zmlP (9, 254, 50) := Or.inl ⟨lwm_2 (j := 211) rfl, rfl⟩
theorem zml_126 : zmlP (9, 258, 91) := Or.inl ⟨lwm_2 (j := 157) rfl, rfl⟩
theorem zml_127 : zmlP (9, 261, 93) := Or.inl ⟨lwm_2 (j := 226) rfl, rfl⟩
theorem zml_128 : zmlP (9, 264, 94) := Or.inl ⟨lwm_2 (j := 234) rfl, rfl⟩
theorem zml_129 : zmlP (10, 53, 103) := Or.inl ⟨lwm_4 (j := 17) rfl, rfl⟩
theorem zml_130 : zmlP (10, 57, 104) := Or.inl ⟨lwm_4 (j := 10) rfl, rfl⟩
theorem zml_131 : zmlP (10, 64, 106) := Or.inl ⟨lwm_4 (j := 28) rfl, rfl⟩
theorem zml_132 : zmlP (10, 74, 108) := Or.inl ⟨lwm_4 (j := 35) rfl, rfl⟩
theorem zml_133 : zmlP (10, 77, 111) := Or.inl ⟨lwm_4 (j := 58) rfl, rfl⟩
theorem zml_134 : zmlP (10, 81, 114) := Or.inl ⟨lwm_4 (j := 47) rfl, rfl⟩
theorem zml_135 : zmlP (10, 84, 112) := Or.inl ⟨lwm_4 (j := 55) rfl, rfl⟩
theorem zml_136 : zmlP (10, 87, 115) := Or.inl ⟨lwm_4 (j := 43) rfl, rfl⟩
theorem zml_137 : zmlP (10, 91, 116) := Or.inl ⟨lwm_4 (j := 51) rfl, rfl⟩
theorem zml_138 : zmlP (10, 95, 120) := Or.inl ⟨lwm_4 (j := 69) rfl, rfl⟩
theorem zml_139 : zmlP (10, 98, 121) := Or.inl ⟨lwm_4 (j := 65) rfl, rfl⟩
theorem zml_140 : zmlP (10, 101, 123) := Or.inl ⟨lwm_4 (j := 61) rfl, rfl⟩
theorem zml_141 : zmlP (10, 105, 122) := Or.inl ⟨lwm_4 (j := 101) rfl, rfl⟩
theorem zml_142 : zmlP (10, 108, 119) := Or.inl ⟨lwm_4 (j := 105) rfl, rfl⟩
theorem zml_143 : zmlP (10, 112, 124) := Or.inl ⟨lwm_4 (j := 97) rfl, rfl⟩
theorem zml_144 : zmlP (10, 116, 128) := Or.inl ⟨lwm_4 (j := 109) rfl, rfl⟩
theorem zml_145 : zmlP (10, 119, 129) := Or.inl ⟨lwm_4 (j := 117) rfl, rfl⟩
theorem zml_146 : zmlP (10, 122, 130) := Or.inl ⟨lwm_4 (j := 113) rfl, rfl⟩
theorem zml_147 : zmlP (10, 126, 131) := Or.inl ⟨lwm_4 (j := 121) rfl, rfl⟩
theorem zml_148 : zmlP (10, 129, 133) := Or.inl ⟨lwm_4 (j := 7) rfl, rfl⟩
theorem zml_149 : zmlP (10, 132, 105) := Or.inl ⟨lwm_4 (j := 13) rfl, rfl⟩
theorem zml_150 : zmlP (10, 135, 107) := Or.inl ⟨lwm_4 (j := 24) rfl, rfl⟩
theorem zml_151 : zmlP (10, 138, 109) := Or.inl ⟨lwm_4 (j := 31) rfl, rfl⟩
theorem zml_152 : zmlP (10, 141, 117) := Or.inl ⟨lwm_4 (j := 39) rfl, rfl⟩
theorem zml_153 : zmlP (10, 144, 113) := Or.inl ⟨lwm_4 (j := 77) rfl, rfl⟩
theorem zml_154 : zmlP (10, 147, 136) := Or.inl ⟨lwm_4 (j := 81) rfl, rfl⟩
theorem zml_155 : zmlP (10, 150, 132) := Or.inl ⟨lwm_4 (j := 93) rfl, rfl⟩
theorem zml_156 : zmlP (10, 153, 110) := Or.inl ⟨lwm_4 (j := 129) rfl, rfl⟩
theorem zml_157 : zmlP (10, 156, 141) := Or.inl ⟨lwm_4 (j := 137) rfl, rfl⟩
theorem zml_158 : zmlP (10, 159, 127) := Or.inl ⟨lwm_4 (j := 141) rfl, rfl⟩
theorem zml_159 : zmlP (10, 162, 143) := Or.inl ⟨lwm_4 (j := 149) rfl, rfl⟩
theorem zml_160 : zmlP (10, 165, 118) := Or.inl ⟨lwm_4 (j := 153) rfl, rfl⟩
theorem zml_161 : zmlP (10, 168, 144) := Or.inl ⟨lwm_4 (j := 157) rfl, rfl⟩
theorem zml_162 : zmlP (10, 171, 145) := Or.inl ⟨lwm_4 (j := 161) rfl, rfl⟩
theorem zml_163 : zmlP (10, 174, 126) := Or.inl ⟨lwm_4 (j := 173) rfl, rfl⟩
theorem zml_164 : zmlP (10, 177, 148) := Or.inl ⟨lwm_4 (j := 177) rfl, rfl⟩
theorem zml_165 : zmlP (10, 180, 149) := Or.inl ⟨lwm_4 (j := 181) rfl, rfl⟩
theorem zml_166 : zmlP (10, 183, 153) := Or.inl ⟨lwm_4 (j := 209) rfl, rfl⟩
theorem zml_167 : zmlP (10, 186, 152) := Or.inl ⟨lwm_4 (j := 197) rfl, rfl⟩
theorem zml_168 : zmlP (10, 189, 156) := Or.inl ⟨lwm_4 (j := 201) rfl, rfl⟩
theorem zml_169 : zmlP (10, 192, 154) := Or.inl ⟨lwm_4 (j := 205) rfl, rfl⟩
theorem zml_170 : zmlP (10, 195, 157) := Or.inl ⟨lwm_4 (j := 193) rfl, rfl⟩
theorem zml_171 : zmlP (10, 198, 155) := Or.inl ⟨lwm_4 (j := 217) rfl, rfl⟩
theorem zml_172 : zmlP (10, 201, 158) := Or.inl ⟨lwm_4 (j := 213) rfl, rfl⟩
theorem zml_173 : zmlP (10, 204, 159) := Or.inl ⟨lwm_4 (j := 221) rfl, rfl⟩
theorem zml_174 : zmlP (10, 207, 160) := Or.inl ⟨lwm_4 (j := 225) rfl, rfl⟩
theorem zml_175 : zmlP (10, 210, 125) := Or.inl ⟨lwm_4 (j := 237) rfl, rfl⟩
theorem zml_176 : zmlP (11, 9, 60) := Or.inl ⟨lwm_1 (j := 16) rfl, rfl⟩
theorem zml_177 : zmlP (11, 12, 102) := Or.inl ⟨lwm_3 (j := 187) rfl, rfl⟩
theorem zml_178 : zmlP (11, 13, 61) := Or.inl ⟨lwm_2 (j := 8) rfl, rfl⟩
theorem zml_179 : zmlP (11, 17, 134) := Or.inl ⟨lwm_4 (j := 3) rfl, rfl⟩
theorem zml_180 : zmlP (11, 18, 62) := Or.inl ⟨lwm_2 (j := 58) rfl, rfl⟩
theorem zml_181 : zmlP (11, 22, 135) := Or.inl ⟨lwm_4 (j := 20) rfl, rfl⟩
theorem zml_182 : zmlP (11, 23, 63) := Or.inl ⟨lwm_2 (j := 138) rfl, rfl⟩
theorem zml_183 : zmlP (11, 26, 137) := Or.inl ⟨lwm_4 (j := 73) rfl, rfl⟩
theorem zml_184 : zmlP (11, 27, 64) := Or.inl ⟨lwm_2 (j := 160) rfl, rfl⟩
theorem zml_185 : zmlP (11, 31, 138) := Or.inl ⟨lwm_4 (j := 85) rfl, rfl⟩
theorem zml_186 : zmlP (11, 32, 65) := Or.inl ⟨lwm_2 (j := 168) rfl, rfl⟩
theorem zml_187 : zmlP (11, 35, 139) := Or.inl ⟨lwm_4 (j := 89) rfl, rfl⟩
theorem zml_188 : zmlP (11, 36, 66) := Or.inl ⟨lwm_3 (j := 6) rfl, rfl⟩
theorem zml_189 : zmlP (11, 39, 140) := Or.inl ⟨lwm_4 (j := 125) rfl, rfl⟩
theorem zml_190 : zmlP (11, 40, 67) := Or.inl ⟨lwm_3 (j := 10) rfl, rfl⟩
theorem zml_191 : zmlP (11, 44, 142) := Or.inl ⟨lwm_4 (j := 133) rfl, rfl⟩
theorem zml_192 : zmlP (11, 45, 68) := Or.inl ⟨lwm_3 (j := 26) rfl, rfl⟩
theorem zml_193 : zmlP (11, 48, 146) := Or.inl ⟨lwm_4 (j := 145) rfl, rfl⟩
theorem zml_194 : zmlP (11, 49, 69) := Or.inl ⟨lwm_3 (j := 51) rfl, rfl⟩
theorem zml_195 : zmlP (11, 52, 147) := Or.inl ⟨lwm_4 (j := 165) rfl, rfl⟩
theorem zml_196 : zmlP (11, 53, 70) := Or.inl ⟨lwm_3 (j := 61) rfl, rfl⟩
theorem zml_197 : zmlP (11, 56, 150) := Or.inl ⟨lwm_4 (j := 169) rfl, rfl⟩
theorem zml_198 : zmlP (11, 57, 71) := Or.inl ⟨lwm_3 (j := 84) rfl, rfl⟩
theorem zml_199 : zmlP (11, 60, 151) := Or.inl ⟨lwm_4 (j := 185) rfl, rfl⟩
theorem zml_200 : zmlP (11, 61, 72) := Or.inl ⟨lwm_3 (j := 89) rfl, rfl⟩
theorem zml_201 : zmlP (11, 64, 161) := Or.inl ⟨lwm_4 (j := 189) rfl, rfl⟩
theorem zml_202 : zmlP (11, 65, 73) := Or.inl ⟨lwm_3 (j := 122) rfl, rfl⟩
theorem zml_203 : zmlP (11, 68, 162) := Or.inl ⟨lwm_4 (j := 229) rfl, rfl⟩
theorem zml_204 : zmlP (11, 69, 74) := Or.inl ⟨lwm_3 (j := 126) rfl, rfl⟩
theorem zml_205 : zmlP (11, 72, 163) := Or.inl ⟨lwm_4 (j := 233) rfl, rfl⟩
theorem zml_206 : zmlP (11, 73, 75) := Or.inl ⟨lwm_3 (j := 130) rfl, rfl⟩
theorem zml_207 : zmlP (11, 76, 164) := Or.inl ⟨lwm_5 (j := 1) rfl, rfl⟩
theorem zml_208 : zmlP (11, 77, 76) := Or.inl ⟨lwm_3 (j := 134) rfl, rfl⟩
theorem zml_209 : zmlP (11, 80, 165) := Or.inl ⟨lwm_5 (j := 5) rfl, rfl⟩
theorem zml_210 : zmlP (11, 81, 77) := Or.inl ⟨lwm_3 (j := 138) rfl, rfl⟩
theorem zml_211 : zmlP (11, 84, 166) := Or.inl ⟨lwm_5 (j := 9) rfl, rfl⟩
theorem zml_212 : zmlP (11, 85, 78) := Or.inl ⟨lwm_3 (j := 143) rfl, rfl⟩
theorem zml_213 : zmlP (11, 88, 167) := Or.inl ⟨lwm_5 (j := 13) rfl, rfl⟩
theorem zml_214 : zmlP (11, 91, 79) := Or.inl ⟨lwm_3 (j := 148) rfl, rfl⟩
theorem zml_215 : zmlP (11, 95, 168) := Or.inl ⟨lwm_5 (j := 17) rfl, rfl⟩
theorem zml_216 : zmlP (11, 96, 80) := Or.inl ⟨lwm_3 (j := 160) rfl, rfl⟩
theorem zml_217 : zmlP (11, 99, 169) := Or.inl ⟨lwm_5 (j := 22) rfl, rfl⟩
theorem zml_218 : zmlP (11, 100, 81) := Or.inl ⟨lwm_3 (j := 164) rfl, rfl⟩
theorem zml_219 : zmlP (11, 103, 170) := Or.inl ⟨lwm_5 (j := 26) rfl, rfl⟩
theorem zml_220 : zmlP (11, 104, 82) := Or.inl ⟨lwm_3 (j := 168) rfl, rfl⟩
theorem zml_221 : zmlP (11, 107, 171) := Or.inl ⟨lwm_5 (j := 30) rfl, rfl⟩
theorem zml_222 : zmlP (11, 108, 83) := Or.inl ⟨lwm_3 (j := 176) rfl, rfl⟩
theorem zml_223 : zmlP (11, 111, 172) := Or.inl ⟨lwm_5 (j := 34) rfl, rfl⟩
theorem zml_224 : zmlP (11, 112, 84) := Or.inl ⟨lwm_3 (j := 181) rfl, rfl⟩
theorem zml_225 : zmlP (11, 115, 173) := Or.inl ⟨lwm_5 (j := 38) rfl, rfl⟩
set_option maxRecDepth 20000 in
theorem zml_ok : ∀ q ∈ zml, zmlP q := List.forall_mem_cons.mpr ⟨zml_0, List.forall_mem_cons.mpr ⟨zml_1, List.forall_mem_cons.mpr ⟨zml_2, List.forall_mem_cons.mpr ⟨zml_3, List.forall_mem_cons.mpr ⟨zml_4, List.forall_mem_cons.mpr ⟨zml_5, List.forall_mem_cons.mpr ⟨zml_6, List.forall_mem_cons.mpr ⟨zml_7, List.forall_mem_cons.mpr ⟨zml_8, List.forall_mem_cons.mpr ⟨zml_9, List.forall_mem_cons.mpr ⟨zml_10, List.forall_mem_cons.mpr ⟨zml_11, List.forall_mem_cons.mpr ⟨zml_12, List.forall_mem_cons.mpr ⟨zml_13, List.forall_mem_cons.mpr ⟨zml_14, List.forall_mem_cons.mpr ⟨zml_15, List.forall_mem_cons.mpr ⟨zml_16, List.forall_mem_cons.mpr ⟨zml_17, List.forall_mem_cons.mpr ⟨zml_18, List.forall_mem_cons.mpr ⟨zml_19, List.forall_mem_cons.mpr ⟨zml_20, List.forall_mem_cons.mpr ⟨zml_21, List.forall_mem_cons.mpr ⟨zml_22, List.forall_mem_cons.mpr ⟨zml_23, List.forall_mem_cons.mpr ⟨zml_24, List.forall_mem_cons.mpr ⟨zml_25, List.forall_mem_cons.mpr ⟨zml_26, List.forall_mem_cons.mpr ⟨zml_27, List.forall_mem_cons.mpr ⟨zml_28, List.forall_mem_cons.mpr ⟨zml_29, List.forall_mem_cons.mpr ⟨zml_30, List.forall_mem_cons.mpr ⟨zml_31, List.forall_mem_cons.mpr ⟨zml_32, List.forall_mem_cons.mpr ⟨zml_33, List.forall_mem_cons.mpr ⟨zml_34, List.forall_mem_cons.mpr ⟨zml_35, List.forall_mem_cons.mpr ⟨zml_36, List.forall_mem_cons.mpr ⟨zml_37, List.forall_mem_cons.mpr ⟨zml_38, List.forall_mem_cons.mpr ⟨zml_39, List.forall_mem_cons.mpr ⟨zml_40, List.forall_mem_cons.mpr ⟨zml_41, List.forall_mem_cons.mpr ⟨zml_42, List.forall_mem_cons.mpr ⟨zml_43, List.forall_mem_cons.mpr ⟨zml_44, List.forall_mem_cons.mpr ⟨zml_45, List.forall_mem_cons.mpr ⟨zml_46, List.forall_mem_cons.mpr ⟨zml_47, List.forall_mem_cons.mpr ⟨zml_48, List.forall_mem_cons.mpr ⟨zml_49, List.forall_mem_cons.mpr ⟨zml_50, List.forall_mem_cons.mpr ⟨zml_51, List.forall_mem_cons.mpr ⟨zml_52, List.forall_mem_cons.mpr ⟨zml_53, List.forall_mem_cons.mpr ⟨zml_54, List.forall_mem_cons.mpr ⟨zml_55, List.forall_mem_cons.mpr ⟨zml_56, List.forall_mem_cons.mpr ⟨zml_57, List.forall_mem_cons.mpr ⟨zml_58, List.forall_mem_cons.mpr ⟨zml_59, List.forall_mem_cons.mpr ⟨zml_60, List.forall_mem_cons.mpr ⟨zml_61, List.forall_mem_cons.mpr ⟨zml_62, List.forall_mem_cons.mpr ⟨zml_63, List.forall_mem_cons.mpr ⟨zml_64, List.forall_mem_cons.mpr ⟨zml_65, List.forall_mem_cons.mpr ⟨zml_66, List.forall_mem_cons.mpr ⟨zml_67, List.forall_mem_cons.mpr ⟨zml_68, List.forall_mem_cons.mpr ⟨zml_69, List.forall_mem_cons.mpr ⟨zml_70, List.forall_mem_cons.mpr ⟨zml_71, List.forall_mem_cons.mpr ⟨zml_72, List.forall_mem_cons.mpr ⟨zml_73, List.forall_mem_cons.mpr ⟨zml_74, List.forall_mem_cons.mpr ⟨zml_75, List.forall_mem_cons.mpr ⟨zml_76, List.forall_mem_cons.mpr ⟨zml_77, List.forall_mem_cons.mpr ⟨zml_78, List.forall_mem_cons.mpr ⟨zml_79, List.forall_mem_cons.mpr ⟨zml_80, List.forall_mem_cons.mpr ⟨zml_81, List.forall_mem_cons.mpr ⟨zml_82, List.forall_mem_cons.mpr ⟨zml_83, List.forall_mem_cons.mpr ⟨zml_84, List.forall_mem_cons.mpr ⟨zml_85, List.forall_mem_cons.mpr ⟨zml_86, List.forall_mem_cons.mpr ⟨zml_87, List.forall_mem_cons.mpr ⟨zml_88, List.forall_mem_cons.mpr ⟨zml_89, List.forall_mem_cons.mpr ⟨zml_90, List.forall_mem_cons.mpr ⟨zml_91, List.forall_mem_cons.mpr ⟨zml_92, List.forall_mem_cons.mpr ⟨zml_93, List.forall_mem_cons.mpr ⟨zml_94, List.forall_mem_cons.mpr ⟨zml_95, List.forall_mem_cons.mpr ⟨zml_96, List.forall_mem_cons.mpr ⟨zml_97, List.forall_mem_cons.mpr ⟨zml_98, List.forall_mem_cons.mpr ⟨zml_99, List.forall_mem_cons.mpr ⟨zml_100, List.forall_mem_cons.mpr ⟨zml_101, List.forall_mem_cons.mpr ⟨zml_102, List.forall_mem_cons.mpr ⟨zml_103, List.forall_mem_cons.mpr ⟨zml_104, List.forall_mem_cons.mpr ⟨zml_105, List.forall_mem_cons.mpr ⟨zml_106, List.forall_mem_cons.mpr ⟨zml_107, List.forall_mem_cons.mpr ⟨zml_108, List.forall_mem_cons.mpr ⟨zml_109, List.forall_mem_cons.mpr ⟨zml_110, List.forall_mem_cons.mpr ⟨zml_111, List.forall_mem_cons.mpr ⟨zml_112, List.forall_mem_cons.mpr ⟨zml_113, List.forall_mem_cons.mpr ⟨zml_114, List.forall_mem_cons.mpr ⟨zml_115, List.forall_mem_cons.mpr ⟨zml_116, List.forall_mem_cons.mpr ⟨zml_117, List.forall_mem_cons.mpr ⟨zml_118, List.forall_mem_cons.mpr ⟨zml_119, List.forall_mem_cons.mpr ⟨zml_120, List.forall_mem_cons.mpr ⟨zml_121, List.forall_mem_cons.mpr ⟨zml_122, List.forall_mem_cons.mpr ⟨zml_123, List.forall_mem_cons.mpr ⟨zml_124, List.forall_mem_cons.mpr ⟨zml_125, List.forall_mem_cons.mpr ⟨zml_126, List.forall_mem_cons.mpr ⟨zml_127, List.forall_mem_cons.mpr ⟨zml_128, List.forall_mem_cons.mpr ⟨zml_129, List.forall_mem_cons.mpr ⟨zml_130, List.forall_mem_cons.mpr ⟨zml_131, List.forall_mem_cons.mpr ⟨zml_132, List.forall_mem_cons.mpr ⟨zml_133, List.forall_mem_cons.mpr ⟨zml_134, List.forall_mem_cons.mpr ⟨zml_135, List.forall_mem_cons.mpr ⟨zml_136, List.forall_mem_cons.mpr ⟨zml_137, List.forall_mem_cons.mpr ⟨zml_138, List.forall_mem_cons.mpr ⟨zml_139, List.forall_mem_cons.mpr ⟨zml_140, List.forall_mem_cons.mpr ⟨zml_141, List.forall_mem_cons.mpr ⟨zml_142, List.forall_mem_cons.mpr ⟨zml_143, List.forall_mem_cons.mpr ⟨zml_144, List.forall_mem_cons.mpr ⟨zml_145, List.forall_mem_cons.mpr ⟨zml_146, List.forall_mem_cons.mpr ⟨zml_147, List.forall_mem_cons.mpr ⟨zml_148, List.forall_mem_cons.mpr ⟨zml_149, List.forall_mem_cons.mpr ⟨zml_150, List.forall_mem_cons.mpr ⟨zml_151, List.forall_mem_cons.mpr ⟨zml_152, List.forall_mem_cons.mpr ⟨zml_153, List.forall_mem_cons.mpr ⟨zml_154, List.forall_mem_cons.mpr ⟨zml_155, List.forall_mem_cons.mpr ⟨zml_156, List.forall_mem_cons.mpr ⟨zml_157, List.forall_mem_cons.mpr ⟨zml_158, List.forall_mem_cons.mpr ⟨zml_159, List.forall_mem_cons.mpr ⟨zml_160, List.forall_mem_cons.mpr ⟨zml_161, List.forall_mem_cons.mpr ⟨zml_162, List.forall_mem_cons.mpr ⟨zml_163, List.forall_mem_cons.mpr ⟨zml_164, List.forall_mem_cons.mpr ⟨zml_165, List.forall_mem_cons.mpr ⟨zml_166, List.forall_mem_cons.mpr ⟨zml_167, List.forall_mem_cons.mpr ⟨zml_168, List.forall_mem_cons.mpr ⟨zml_169, List.forall_mem_cons.mpr ⟨zml_170, List.forall_mem_cons.mpr ⟨zml_171, List.forall_mem_cons.mpr ⟨zml_172, List.forall_mem_cons.mpr ⟨zml_173, List.forall_mem_cons.mpr ⟨zml_174, List.forall_mem_cons.mpr ⟨zml_175, List.forall_mem_cons.mpr ⟨zml_176, List.forall_mem_cons.mpr ⟨zml_177, List.forall_mem_cons.mpr ⟨zml_178, List.forall_mem_cons.mpr ⟨zml_179, List.forall_mem_cons.mpr ⟨zml_180, List.forall_mem_cons.mpr ⟨zml_181, List.forall_mem_cons.mpr ⟨zml_182, List.forall_mem_cons.mpr ⟨zml_183, List.forall_mem_cons.mpr ⟨zml_184, List.forall_mem_cons.mpr ⟨zml_185, List.forall_mem_cons.mpr ⟨zml_186, List.forall_mem_cons.mpr ⟨zml_187, List.forall_mem_cons.mpr ⟨zml_188, List.forall_mem_cons.mpr ⟨zml_189, List.forall_mem_cons.mpr ⟨zml_190, List.forall_mem_cons.mpr ⟨zml_191, List.forall_mem_cons.mpr ⟨zml_192, List.forall_mem_cons.mpr ⟨zml_193, List.forall_mem_cons.mpr ⟨zml_194, List.forall_mem_cons.mpr ⟨zml_195, List.forall_mem_cons.mpr ⟨zml_196, List.forall_mem_cons.mpr ⟨zml_197, List.forall_mem_cons.mpr ⟨zml_198, List.forall_mem_cons.mpr ⟨zml_199, List.forall_mem_cons.mpr ⟨zml_200, List.forall_mem_cons.mpr ⟨zml_201, List.forall_mem_cons.mpr ⟨zml_202, List.forall_mem_cons.mpr ⟨zml_203, List.forall_mem_cons.mpr ⟨zml_204, List.forall_mem_cons.mpr ⟨zml_205, List.forall_mem_cons.mpr ⟨zml_206, List.forall_mem_cons.mpr ⟨zml_207, List.forall_mem_cons.mpr ⟨zml_208, List.forall_mem_cons.mpr ⟨zml_209, List.forall_mem_cons.mpr ⟨zml_210, List.forall_mem_cons.mpr ⟨zml_211, List.forall_mem_cons.mpr ⟨zml_212, List.forall_mem_cons.mpr ⟨zml_213, List.forall_mem_cons.mpr ⟨zml_214, List.forall_mem_cons.mpr ⟨zml_215, List.forall_mem_cons.mpr ⟨zml_216, List.forall_mem_cons.mpr ⟨zml_217, List.forall_mem_cons.mpr ⟨zml_218, List.forall_mem_cons.mpr ⟨zml_219, List.forall_mem_cons.mpr ⟨zml_220, List.forall_mem_cons.mpr ⟨zml_221, List.forall_mem_cons.mpr ⟨zml_222, List.forall_mem_cons.mpr ⟨zml_223, List.forall_mem_cons.mpr ⟨zml_224, List.forall_mem_cons.mpr ⟨zml_225, fun _ h => absurd h List.not_mem_nil⟩⟩⟩⟩⟩⟩⟩⟩⟩⟩⟩⟩⟩⟩⟩⟩⟩⟩⟩⟩⟩⟩⟩⟩⟩⟩⟩⟩⟩⟩⟩⟩⟩⟩⟩⟩⟩⟩⟩⟩⟩⟩⟩⟩⟩⟩⟩⟩⟩⟩⟩⟩⟩⟩⟩⟩⟩⟩⟩⟩⟩⟩⟩⟩⟩⟩⟩⟩⟩⟩⟩⟩⟩⟩⟩⟩⟩⟩⟩⟩⟩⟩⟩⟩⟩⟩⟩⟩⟩⟩⟩⟩⟩⟩⟩⟩⟩⟩⟩⟩⟩⟩⟩⟩⟩⟩⟩⟩⟩⟩⟩⟩⟩⟩⟩⟩⟩⟩⟩⟩⟩⟩⟩⟩⟩⟩⟩⟩⟩⟩⟩⟩⟩⟩⟩⟩⟩⟩⟩⟩⟩⟩⟩⟩⟩⟩⟩⟩⟩⟩⟩⟩⟩⟩⟩⟩⟩⟩⟩⟩⟩⟩⟩⟩⟩⟩⟩⟩⟩⟩⟩⟩⟩⟩⟩⟩⟩⟩⟩⟩⟩⟩⟩⟩⟩⟩⟩⟩⟩⟩⟩⟩⟩⟩⟩⟩⟩⟩⟩⟩⟩⟩⟩⟩⟩⟩⟩⟩⟩⟩⟩⟩⟩⟩⟩⟩⟩⟩⟩⟩⟩⟩⟩⟩⟩⟩
def zklP (q : Nat × Nat × Nat) : Prop := zW (.classLink (zcn q.1) q.2.1 (zcn q.2.2)) ∧ q.2.2 < 11
theorem zkl_0 : zklP (2, 9, 6) := ⟨⟨lwm_1 (j := 139) rfl, rfl⟩, Nat.le_of_ble_eq_true rfl⟩
theorem zkl_1 : zklP (6, 15, 0) := ⟨⟨lwm_1 (j := 28) rfl, rfl⟩, Nat.le_of_ble_eq_true rfl⟩
theorem zkl_2 : zklP (6, 22, 7) := ⟨⟨lwm_1 (j := 50) rfl, rfl⟩, Nat.le_of_ble_eq_true rfl⟩
theorem zkl_3 : zklP (7, 9, 8) := ⟨⟨lwm_1 (j := 56) rfl, rfl⟩, Nat.le_of_ble_eq_true rfl⟩
theorem zkl_4 : zklP (9, 9, 6) := ⟨⟨lwm_1 (j := 22) rfl, rfl⟩, Nat.le_of_ble_eq_true rfl⟩
theorem zkl_5 : zklP (9, 16, 2) := ⟨⟨lwm_1 (j := 133) rfl, rfl⟩, Nat.le_of_ble_eq_true rfl⟩
theorem zkl_6 : zklP (9, 27, 3) := ⟨⟨lwm_1 (j := 152) rfl, rfl⟩, Nat.le_of_ble_eq_true rfl⟩
theorem zkl_7 : zklP (9, 34, 8) := ⟨⟨lwm_1 (j := 166) rfl, rfl⟩, Nat.le_of_ble_eq_true rfl⟩
theorem zkl_8 : zklP (9, 41, 5) := ⟨⟨lwm_1 (j := 168) rfl, rfl⟩, Nat.le_of_ble_eq_true rfl⟩
theorem zkl_9 : zklP (9, 48, 1) := ⟨⟨lwm_1 (j := 189) rfl, rfl⟩, Nat.le_of_ble_eq_true rfl⟩
theorem zkl_10 : zklP (9, 55, 4) := ⟨⟨lwm_1 (j := 200) rfl, rfl⟩, Nat.le_of_ble_eq_true rfl⟩
theorem zkl_11 : zklP (11, 7, 9) := ⟨⟨lwm_1 (j := 14) rfl, rfl⟩, Nat.le_of_ble_eq_true rfl⟩
theorem zkl_12 : zklP (11, 10, 10) := ⟨⟨lwm_3 (j := 185) rfl, rfl⟩, Nat.le_of_ble_eq_true rfl⟩
theorem zkl_ok : ∀ q ∈ zkl, zklP q := List.forall_mem_cons.mpr ⟨zkl_0, List.forall_mem_cons.mpr ⟨zkl_1, List.forall_mem_cons.mpr ⟨zkl_2, List.forall_mem_cons.mpr ⟨zkl_3, List.forall_mem_cons.mpr ⟨zkl_4, List.forall_mem_cons.mpr ⟨zkl_5, List.forall_mem_cons.mpr ⟨zkl_6, List.forall_mem_cons.mpr ⟨zkl_7, List.forall_mem_cons.mpr ⟨zkl_8, List.forall_mem_cons.mpr ⟨zkl_9, List.forall_mem_cons.mpr ⟨zkl_10, List.forall_mem_cons.mpr ⟨zkl_11, List.forall_mem_cons.mpr ⟨zkl_12, fun _ h => absurd h List.not_mem_nil⟩⟩⟩⟩⟩⟩⟩⟩⟩⟩⟩⟩⟩
def zllP (q : Nat × Nat × Nat) : Prop := zW (.constantLong (zcn q.1) q.2.1 (Int64.ofNat q.2.2))
theorem zll_0 : zllP (10, 213, 255) := ⟨lwm_5 (j := 21) rfl, rfl⟩
theorem zll_1 : zllP (11, 89, 4294967295) := ⟨lwm_5 (j := 42) rfl, rfl⟩
theorem zll_ok : ∀ q ∈ zll, zllP q := List.forall_mem_cons.mpr ⟨zll_0, List.forall_mem_cons.mpr ⟨zll_1, fun _ h => absurd h List.not_mem_nil⟩⟩
def zslP (q : Nat × Nat × Nat) : Prop := (q.2.2 = 0 ∧ zW (.fieldLink (zcn q.1) q.2.1 "GarbleWords" "LOWEST" "[I")) ∨ (q.2.2 = 1 ∧ zW (.fieldLink (zcn q.1) q.2.1 "GarbleWords" "HIGHEST" "[I"))
theorem zsl_0 : zslP (9, 62, 0) := Or.inl ⟨rfl, ⟨lwm_2 (j := 12) rfl, rfl⟩⟩
theorem zsl_1 : zslP (9, 70, 1) := Or.inr ⟨rfl, ⟨lwm_2 (j := 17) rfl, rfl⟩⟩
theorem zsl_ok : ∀ q ∈ zsl, zslP q := List.forall_mem_cons.mpr ⟨zsl_0, List.forall_mem_cons.mpr ⟨zsl_1, fun _ h => absurd h List.not_mem_nil⟩⟩
def zbn (j : Nat) : MethodName := if j = 0 then Lib.objectInit else if j = 1 then Lib.Math.max.name else if j = 2 then Lib.Math.min.name else arraycopyName
def zblP (q : Nat × Nat × Nat) : Prop := q.2.2 ≤ 3 ∧ zW (.methodLink (zcn q.1) q.2.1 (zbn q.2.2))
theorem zbl_0 : zblP (0, 3, 0) := ⟨Nat.le_of_ble_eq_true rfl, ⟨lwm_1 (j := 33) rfl, rfl⟩⟩
theorem zbl_1 : zblP (0, 62, 2) := ⟨Nat.le_of_ble_eq_true rfl, ⟨lwm_2 (j := 158) rfl, rfl⟩⟩
theorem zbl_2 : zblP (1, 3, 0) := ⟨Nat.le_of_ble_eq_true rfl, ⟨lwm_1 (j := 194) rfl, rfl⟩⟩
theorem zbl_3 : zblP (1, 33, 1) := ⟨Nat.le_of_ble_eq_true rfl, ⟨lwm_2 (j := 110) rfl, rfl⟩⟩
theorem zbl_4 : zblP (2, 3, 0) := ⟨Nat.le_of_ble_eq_true rfl, ⟨lwm_1 (j := 138) rfl, rfl⟩⟩
theorem zbl_5 : zblP (3, 3, 0) := ⟨Nat.le_of_ble_eq_true rfl, ⟨lwm_1 (j := 157) rfl, rfl⟩⟩
theorem zbl_6 : zblP (4, 3, 0) := ⟨Nat.le_of_ble_eq_true rfl, ⟨lwm_1 (j := 205) rfl, rfl⟩⟩
theorem zbl_7 : zblP (5, 3, 0) := ⟨Nat.le_of_ble_eq_true rfl, ⟨lwm_1 (j := 173) rfl, rfl⟩⟩
theorem zbl_8 : zblP (6, 3, 0) := ⟨Nat.le_of_ble_eq_true rfl, ⟨lwm_1 (j := 27) rfl, rfl⟩⟩
theorem zbl_9 : zblP (6, 33, 1) := ⟨Nat.le_of_ble_eq_true rfl, ⟨lwm_2 (j := 187) rfl, rfl⟩⟩
theorem zbl_10 : zblP (7, 3, 0) := ⟨Nat.le_of_ble_eq_true rfl, ⟨lwm_1 (j := 55) rfl, rfl⟩⟩
theorem zbl_11 : zblP (7, 99, 1) := ⟨Nat.le_of_ble_eq_true rfl, ⟨lwm_3 (j := 5) rfl, rfl⟩⟩
theorem zbl_12 : zblP (8, 3, 0) := ⟨Nat.le_of_ble_eq_true rfl, ⟨lwm_1 (j := 61) rfl, rfl⟩⟩
theorem zbl_13 : zblP (9, 3, 0) := ⟨Nat.le_of_ble_eq_true rfl, ⟨lwm_1 (j := 19) rfl, rfl⟩⟩
theorem zbl_14 : zblP (9, 268, 2) := ⟨Nat.le_of_ble_eq_true rfl, ⟨lwm_2 (j := 31) rfl, rfl⟩⟩
theorem zbl_15 : zblP (9, 273, 3) := ⟨Nat.le_of_ble_eq_true rfl, ⟨lwm_2 (j := 34) rfl, rfl⟩⟩
theorem zbl_16 : zblP (10, 1, 0) := ⟨Nat.le_of_ble_eq_true rfl, ⟨lwm_3 (j := 190) rfl, rfl⟩⟩
theorem zbl_ok : ∀ q ∈ zbl, zblP q := List.forall_mem_cons.mpr ⟨zbl_0, List.forall_mem_cons.mpr ⟨zbl_1, List.forall_mem_cons.mpr ⟨zbl_2, List.forall_mem_cons.mpr ⟨zbl_3, List.forall_mem_cons.mpr ⟨zbl_4, List.forall_mem_cons.mpr ⟨zbl_5, List.forall_mem_cons.mpr ⟨zbl_6, List.forall_mem_cons.mpr ⟨zbl_7, List.forall_mem_cons.mpr ⟨zbl_8, List.forall_mem_cons.mpr ⟨zbl_9, List.forall_mem_cons.mpr ⟨zbl_10, List.forall_mem_cons.mpr ⟨zbl_11, List.forall_mem_cons.mpr ⟨zbl_12, List.forall_mem_cons.mpr ⟨zbl_13, List.forall_mem_cons.mpr ⟨zbl_14, List.forall_mem_cons.mpr ⟨zbl_15, List.forall_mem_cons.mpr ⟨zbl_16, fun _ h => absurd h List.not_mem_nil⟩⟩⟩⟩⟩⟩⟩⟩⟩⟩⟩⟩⟩⟩⟩⟩⟩
theorem zwj_0 : zW (.instanceMethod Lib.objectInit) := ⟨lwm_1 (j := 20) rfl, rfl⟩
theorem zwj_1 : zW (.code Lib.objectInit ⟨#[0xb1]⟩ 1 none) := ⟨lwm_1 (j := 21) rfl, rfl⟩
theorem zwj_max : zW (.static Lib.Math.max.name) := ⟨lwm_2 (j := 111) rfl, rfl⟩
theorem zwj_maxc : zW (.code Lib.Math.max.name Lib.Math.max.code 2 (some .int)) := ⟨lwm_2 (j := 112) rfl, rfl⟩
theorem zwj_min : zW (.static Lib.Math.min.name) := ⟨lwm_2 (j := 32) rfl, rfl⟩
theorem zwj_minc : zW (.code Lib.Math.min.name Lib.Math.min.code 2 (some .int)) := ⟨lwm_2 (j := 33) rfl, rfl⟩
theorem zwj_mi : zW (.initialized "java/lang/Math") := ⟨lwm_1 (j := 12) rfl, rfl⟩
theorem zwj_si : zW (.initialized "java/lang/System") := ⟨lwm_1 (j := 13) rfl, rfl⟩
theorem zwj_an : zW (.native arraycopyName) := ⟨lwm_2 (j := 36) rfl, rfl⟩
theorem zwj_as : zW (.static arraycopyName) := ⟨lwm_2 (j := 35) rfl, rfl⟩
theorem zwj_ai : zW (.arrayClass .int) := ⟨lwm_1 (j := 48) rfl, rfl⟩
theorem zwj_aj : zW (.arrayClass .long) := ⟨lwm_1 (j := 49) rfl, rfl⟩
theorem zwj_az : zW (.arrayClass .boolean) := ⟨lwm_1 (j := 199) rfl, rfl⟩
theorem zwj_ao : zW (.arrayOver (.object "GarbleWords$State")) := ⟨lwm_1 (j := 140) rfl, rfl⟩
def zclP (ci : Nat) : Prop := ∃ (C : String) (T : u_T) (N : Nat) (ty : Nat → FieldType), vwCl[ci]? = some (C, T, N) ∧ zcn ci = C ∧ (∀ w ∈ u_ws C T N, zW w) ∧ (∀ k, k < N → parseFieldDescriptor (T k).2.2.1 = some (ty k)) ∧ (∀ a, a < N → ∀ b, b < N → a ≠ b → (T a).2.1 ≠ (T b).2.1) ∧ (zkinds.getD ci []).length = N ∧ (∀ k, k < N → (zkind ci k = 0 ∧ ty k = .int ∧ (T k).2.2.2 = false) ∨ (zkind ci k = 1 ∧ ty k = .boolean ∧ (T k).2.2.2 = false) ∨ (zkind ci k = 12 ∧ ((∃ c, ty k = .object c) ∨ ∃ t, ty k = .array t) ∧ (T k).2.2.2 = true ∧ (T k).1 = C)) ∧ zW (.instantiable C N) ∧ zW (.initialized C)
set_option maxRecDepth 20000 in
theorem zcl_0 : zclP 0 := ⟨RX0, TX0, 3, tyX0, rfl, rfl, List.forall_mem_cons.mpr ⟨⟨lwm_1 (j := 41) rfl, rfl⟩, List.forall_mem_cons.mpr ⟨⟨lwm_1 (j := 43) rfl, rfl⟩, List.forall_mem_cons.mpr ⟨⟨lwm_1 (j := 45) rfl, rfl⟩, fun _ h => absurd h List.not_mem_nil⟩⟩⟩, tyX0_ok, nmX0, rfl, lt_s (lt_s (lt_s (lt_0) (Or.inr (Or.inr ⟨rfl, Or.inr ⟨_, rfl⟩, rfl, rfl⟩))) (Or.inr (Or.inr ⟨rfl, Or.inr ⟨_, rfl⟩, rfl, rfl⟩))) (Or.inl ⟨rfl, rfl, rfl⟩), ⟨lwm_1 (j := 29) rfl, rfl⟩, ⟨lwm_1 (j := 3) rfl, rfl⟩⟩
set_option maxRecDepth 20000 in
theorem zcl_1 : zclP 1 := ⟨RX1, TX1, 1, tyX1, rfl, rfl, List.forall_mem_cons.mpr ⟨⟨lwm_1 (j := 196) rfl, rfl⟩, fun _ h => absurd h List.not_mem_nil⟩, tyX1_ok, nmX1, rfl, lt_s (lt_0) (Or.inr (Or.inr ⟨rfl, Or.inr ⟨_, rfl⟩, rfl, rfl⟩)), ⟨lwm_1 (j := 190) rfl, rfl⟩, ⟨lwm_1 (j := 9) rfl, rfl⟩⟩
set_option maxRecDepth 20000 in
theorem zcl_2 : zclP 2 := ⟨RX2, TX2, 3, tyX2, rfl, rfl, List.forall_mem_cons.mpr ⟨⟨lwm_1 (j := 145) rfl, rfl⟩, List.forall_mem_cons.mpr ⟨⟨lwm_1 (j := 147) rfl, rfl⟩, List.forall_mem_cons.mpr ⟨⟨lwm_1 (j := 149) rfl, rfl⟩, fun _ h => absurd h List.not_mem_nil⟩⟩⟩, tyX2_ok, nmX2, rfl, lt_s (lt_s (lt_s (lt_0) (Or.inr (Or.inr ⟨rfl, Or.inr ⟨_, rfl⟩, rfl, rfl⟩))) (Or.inl ⟨rfl, rfl, rfl⟩)) (Or.inl ⟨rfl, rfl, rfl⟩), ⟨lwm_1 (j := 134) rfl, rfl⟩, ⟨lwm_1 (j := 6) rfl, rfl⟩⟩
set_option maxRecDepth 20000 in
theorem zcl_3 : zclP 3 := ⟨RX3, TX3, 2, tyX3, rfl, rfl, List.forall_mem_cons.mpr ⟨⟨lwm_1 (j := 161) rfl, rfl⟩, List.forall_mem_cons.mpr ⟨⟨lwm_1 (j := 163) rfl, rfl⟩, fun _ h => absurd h List.not_mem_nil⟩⟩, tyX3_ok, nmX3, rfl, lt_s (lt_s (lt_0) (Or.inr (Or.inr ⟨rfl, Or.inr ⟨_, rfl⟩, rfl, rfl⟩))) (Or.inl ⟨rfl, rfl, rfl⟩), ⟨lwm_1 (j := 153) rfl, rfl⟩, ⟨lwm_1 (j := 7) rfl, rfl⟩⟩
set_option maxRecDepth 20000 in
theorem zcl_4 : zclP 4 := ⟨RX4, TX4, 4, tyX4, rfl, rfl, List.forall_mem_cons.mpr ⟨⟨lwm_1 (j := 214) rfl, rfl⟩, List.forall_mem_cons.mpr ⟨⟨lwm_1 (j := 216) rfl, rfl⟩, List.forall_mem_cons.mpr ⟨⟨lwm_1 (j := 218) rfl, rfl⟩, List.forall_mem_cons.mpr ⟨⟨lwm_1 (j := 220) rfl, rfl⟩, fun _ h => absurd h List.not_mem_nil⟩⟩⟩⟩, tyX4_ok, nmX4, rfl, lt_s (lt_s (lt_s (lt_s (lt_0) (Or.inl ⟨rfl, rfl, rfl⟩)) (Or.inl ⟨rfl, rfl, rfl⟩)) (Or.inl ⟨rfl, rfl, rfl⟩)) (Or.inr (Or.inl ⟨rfl, rfl, rfl⟩)), ⟨lwm_1 (j := 201) rfl, rfl⟩, ⟨lwm_1 (j := 10) rfl, rfl⟩⟩
set_option maxRecDepth 20000 in
theorem zcl_5 : zclP 5 := ⟨RX5, TX5, 4, tyX5, rfl, rfl, List.forall_mem_cons.mpr ⟨⟨lwm_1 (j := 180) rfl, rfl⟩, List.forall_mem_cons.mpr ⟨⟨lwm_1 (j := 182) rfl, rfl⟩, List.forall_mem_cons.mpr ⟨⟨lwm_1 (j := 184) rfl, rfl⟩, List.forall_mem_cons.mpr ⟨⟨lwm_1 (j := 186) rfl, rfl⟩, fun _ h => absurd h List.not_mem_nil⟩⟩⟩⟩, tyX5_ok, nmX5, rfl, lt_s (lt_s (lt_s (lt_s (lt_0) (Or.inr (Or.inr ⟨rfl, Or.inr ⟨_, rfl⟩, rfl, rfl⟩))) (Or.inr (Or.inr ⟨rfl, Or.inr ⟨_, rfl⟩, rfl, rfl⟩))) (Or.inr (Or.inr ⟨rfl, Or.inr ⟨_, rfl⟩, rfl, rfl⟩))) (Or.inr (Or.inr ⟨rfl, Or.inr ⟨_, rfl⟩, rfl, rfl⟩)), ⟨lwm_1 (j := 169) rfl, rfl⟩, ⟨lwm_1 (j := 8) rfl, rfl⟩⟩
set_option maxRecDepth 20000 in
theorem zcl_6 : zclP 6 := ⟨RX6, TX6, 3, tyX6, rfl, rfl, List.forall_mem_cons.mpr ⟨⟨lwm_1 (j := 126) rfl, rfl⟩, List.forall_mem_cons.mpr ⟨⟨lwm_1 (j := 128) rfl, rfl⟩, List.forall_mem_cons.mpr ⟨⟨lwm_1 (j := 130) rfl, rfl⟩, fun _ h => absurd h List.not_mem_nil⟩⟩⟩, tyX6_ok, nmX6, rfl, lt_s (lt_s (lt_s (lt_0) (Or.inr (Or.inr ⟨rfl, Or.inr ⟨_, rfl⟩, rfl, rfl⟩))) (Or.inr (Or.inr ⟨rfl, Or.inl ⟨_, rfl⟩, rfl, rfl⟩))) (Or.inr (Or.inr ⟨rfl, Or.inl ⟨_, rfl⟩, rfl, rfl⟩)), ⟨lwm_1 (j := 23) rfl, rfl⟩, ⟨lwm_1 (j := 2) rfl, rfl⟩⟩
set_option maxRecDepth 20000 in
theorem zcl_7 : zclP 7 := ⟨RX7, TX7, 9, tyX7, rfl, rfl, List.forall_mem_cons.mpr ⟨⟨lwm_1 (j := 97) rfl, rfl⟩, List.forall_mem_cons.mpr ⟨⟨lwm_1 (j := 99) rfl, rfl⟩, List.forall_mem_cons.mpr ⟨⟨lwm_1 (j := 101) rfl, rfl⟩, List.forall_mem_cons.mpr ⟨⟨lwm_1 (j := 103) rfl, rfl⟩, List.forall_mem_cons.mpr ⟨⟨lwm_1 (j := 105) rfl, rfl⟩, List.forall_mem_cons.mpr ⟨⟨lwm_1 (j := 107) rfl, rfl⟩, List.forall_mem_cons.mpr ⟨⟨lwm_1 (j := 109) rfl, rfl⟩, List.forall_mem_cons.mpr ⟨⟨lwm_1 (j := 111) rfl, rfl⟩, List.forall_mem_cons.mpr ⟨⟨lwm_1 (j := 113) rfl, rfl⟩, fun _ h => absurd h List.not_mem_nil⟩⟩⟩⟩⟩⟩⟩⟩⟩, tyX7_ok, nmX7, rfl, lt_s (lt_s (lt_s (lt_s (lt_s (lt_s (lt_s (lt_s (lt_s (lt_0) (Or.inr (Or.inr ⟨rfl, Or.inl ⟨_, rfl⟩, rfl, rfl⟩))) (Or.inr (Or.inr ⟨rfl, Or.inr ⟨_, rfl⟩, rfl, rfl⟩))) (Or.inr (Or.inr ⟨rfl, Or.inr ⟨_, rfl⟩, rfl, rfl⟩))) (Or.inr (Or.inr ⟨rfl, Or.inr ⟨_, rfl⟩, rfl, rfl⟩))) (Or.inr (Or.inr ⟨rfl, Or.inr ⟨_, rfl⟩, rfl, rfl⟩))) (Or.inr (Or.inr ⟨rfl, Or.inr ⟨_, rfl⟩, rfl, rfl⟩))) (Or.inr (Or.inr ⟨rfl, Or.inr ⟨_, rfl⟩, rfl, rfl⟩))) (Or.inr (Or.inr ⟨rfl, Or.inr ⟨_, rfl⟩, rfl, rfl⟩))) (Or.inl ⟨rfl, rfl, rfl⟩), ⟨lwm_1 (j := 51) rfl, rfl⟩, ⟨lwm_1 (j := 4) rfl, rfl⟩⟩
set_option maxRecDepth 20000 in
theorem zcl_8 : zclP 8 := ⟨RX8, TX8, 2, tyX8, rfl, rfl, List.forall_mem_cons.mpr ⟨⟨lwm_1 (j := 69) rfl, rfl⟩, List.forall_mem_cons.mpr ⟨⟨lwm_1 (j := 71) rfl, rfl⟩, fun _ h => absurd h List.not_mem_nil⟩⟩, tyX8_ok, nmX8, rfl, lt_s (lt_s (lt_0) (Or.inr (Or.inr ⟨rfl, Or.inr ⟨_, rfl⟩, rfl, rfl⟩))) (Or.inl ⟨rfl, rfl, rfl⟩), ⟨lwm_1 (j := 57) rfl, rfl⟩, ⟨lwm_1 (j := 5) rfl, rfl⟩⟩
set_option maxRecDepth 20000 in
theorem zcl_9 : zclP 9 := ⟨RX9, TX9, 8, tyX9, rfl, rfl, List.forall_mem_cons.mpr ⟨⟨lwm_1 (j := 231) rfl, rfl⟩, List.forall_mem_cons.mpr ⟨⟨lwm_1 (j := 233) rfl, rfl⟩, List.forall_mem_cons.mpr ⟨⟨lwm_1 (j := 235) rfl, rfl⟩, List.forall_mem_cons.mpr ⟨⟨lwm_1 (j := 237) rfl, rfl⟩, List.forall_mem_cons.mpr ⟨⟨lwm_1 (j := 239) rfl, rfl⟩, List.forall_mem_cons.mpr ⟨⟨lwm_2 (j := 1) rfl, rfl⟩, List.forall_mem_cons.mpr ⟨⟨lwm_2 (j := 3) rfl, rfl⟩, List.forall_mem_cons.mpr ⟨⟨lwm_2 (j := 5) rfl, rfl⟩, fun _ h => absurd h List.not_mem_nil⟩⟩⟩⟩⟩⟩⟩⟩, tyX9_ok, nmX9, rfl, lt_s (lt_s (lt_s (lt_s (lt_s (lt_s (lt_s (lt_s (lt_0) (Or.inr (Or.inr ⟨rfl, Or.inl ⟨_, rfl⟩, rfl, rfl⟩))) (Or.inr (Or.inr ⟨rfl, Or.inl ⟨_, rfl⟩, rfl, rfl⟩))) (Or.inr (Or.inr ⟨rfl, Or.inr ⟨_, rfl⟩, rfl, rfl⟩))) (Or.inr (Or.inr ⟨rfl, Or.inl ⟨_, rfl⟩, rfl, rfl⟩))) (Or.inr (Or.inr ⟨rfl, Or.inl ⟨_, rfl⟩, rfl, rfl⟩))) (Or.inr (Or.inr ⟨rfl, Or.inl ⟨_, rfl⟩, rfl, rfl⟩))) (Or.inr (Or.inr ⟨rfl, Or.inl ⟨_, rfl⟩, rfl, rfl⟩))) (Or.inr (Or.inr ⟨rfl, Or.inl ⟨_, rfl⟩, rfl, rfl⟩)), ⟨lwm_1 (j := 15) rfl, rfl⟩, ⟨lwm_1 (j := 1) rfl, rfl⟩⟩
set_option maxRecDepth 20000 in
theorem zcl_10 : zclP 10 := ⟨RX10, TX10, 17, tyX10, rfl, rfl, List.forall_mem_cons.mpr ⟨⟨lwm_3 (j := 208) rfl, rfl⟩, List.forall_mem_cons.mpr ⟨⟨lwm_3 (j := 210) rfl, rfl⟩, List.forall_mem_cons.mpr ⟨⟨lwm_3 (j := 212) rfl, rfl⟩, List.forall_mem_cons.mpr ⟨⟨lwm_3 (j := 214) rfl, rfl⟩, List.forall_mem_cons.mpr ⟨⟨lwm_3 (j := 216) rfl, rfl⟩, List.forall_mem_cons.mpr ⟨⟨lwm_3 (j := 218) rfl, rfl⟩, List.forall_mem_cons.mpr ⟨⟨lwm_3 (j := 220) rfl, rfl⟩, List.forall_mem_cons.mpr ⟨⟨lwm_3 (j := 222) rfl, rfl⟩, List.forall_mem_cons.mpr ⟨⟨lwm_3 (j := 224) rfl, rfl⟩, List.forall_mem_cons.mpr ⟨⟨lwm_3 (j := 226) rfl, rfl⟩, List.forall_mem_cons.mpr ⟨⟨lwm_3 (j := 228) rfl, rfl⟩, List.forall_mem_cons.mpr ⟨⟨lwm_3 (j := 230) rfl, rfl⟩, List.forall_mem_cons.mpr ⟨⟨lwm_3 (j := 232) rfl, rfl⟩, List.forall_mem_cons.mpr ⟨⟨lwm_3 (j := 234) rfl, rfl⟩, List.forall_mem_cons.mpr ⟨⟨lwm_3 (j := 236) rfl, rfl⟩, List.forall_mem_cons.mpr ⟨⟨lwm_3 (j := 238) rfl, rfl⟩, List.forall_mem_cons.mpr ⟨⟨lwm_4 (j := 0) rfl, rfl⟩, fun _ h => absurd h List.not_mem_nil⟩⟩⟩⟩⟩⟩⟩⟩⟩⟩⟩⟩⟩⟩⟩⟩⟩, tyX10_ok, nmX10, rfl, lt_s (lt_s (lt_s (lt_s (lt_s (lt_s (lt_s (lt_s (lt_s (lt_s (lt_s (lt_s (lt_s (lt_s (lt_s (lt_s (lt_s (lt_0) (Or.inr (Or.inr ⟨rfl, Or.inr ⟨_, rfl⟩, rfl, rfl⟩))) (Or.inr (Or.inr ⟨rfl, Or.inr ⟨_, rfl⟩, rfl, rfl⟩))) (Or.inl ⟨rfl, rfl, rfl⟩)) (Or.inr (Or.inr ⟨rfl, Or.inr ⟨_, rfl⟩, rfl, rfl⟩))) (Or.inr (Or.inr ⟨rfl, Or.inr ⟨_, rfl⟩, rfl, rfl⟩))) (Or.inr (Or.inr ⟨rfl, Or.inr ⟨_, rfl⟩, rfl, rfl⟩))) (Or.inl ⟨rfl, rfl, rfl⟩)) (Or.inr (Or.inr ⟨rfl, Or.inr ⟨_, rfl⟩, rfl, rfl⟩))) (Or.inl ⟨rfl, rfl, rfl⟩)) (Or.inl ⟨rfl, rfl, rfl⟩)) (Or.inr (Or.inr ⟨rfl, Or.inr ⟨_, rfl⟩, rfl, rfl⟩))) (Or.inr (Or.inr ⟨rfl, Or.inr ⟨_, rfl⟩, rfl, rfl⟩))) (Or.inr (Or.inr ⟨rfl, Or.inr ⟨_, rfl⟩, rfl, rfl⟩))) (Or.inr (Or.inr ⟨rfl, Or.inr ⟨_, rfl⟩, rfl, rfl⟩))) (Or.inr (Or.inr ⟨rfl, Or.inr ⟨_, rfl⟩, rfl, rfl⟩))) (Or.inr (Or.inr ⟨rfl, Or.inr ⟨_, rfl⟩, rfl, rfl⟩))) (Or.inr (Or.inr ⟨rfl, Or.inr ⟨_, rfl⟩, rfl, rfl⟩)), ⟨lwm_3 (j := 186) rfl, rfl⟩, ⟨lwm_1 (j := 11) rfl, rfl⟩⟩
theorem zcl_ok : ∀ ci, ci < 11 → zclP ci := lt_s (lt_s (lt_s (lt_s (lt_s (lt_s (lt_s (lt_s (lt_s (lt_s (lt_s (lt_0) zcl_0) zcl_1) zcl_2) zcl_3) zcl_4) zcl_5) zcl_6) zcl_7) zcl_8) zcl_9) zcl_10
def zmP (k : Nat) : Prop := zW (.code (zy k) (zb k) (zmx k) (zrt k)) ∧ zW (.initialized (zy k).cls) ∧ (if zst k = true then zW (.static (zy k)) else zW (.instanceMethod (zy k))) ∧ (if zst k = false ∧ zis k = false then zW (.selects (zy k).cls (zy k) (zy k)) else True) ∧ (plainName (zy k).cls = true ∧ (zy k).cls ≠ "java/lang/invoke/MethodHandle" ∧ (zy k).cls ≠ "java/lang/invoke/VarHandle") ∧ (parseMethodDescriptor (zy k).desc).map (fun d => d.parameters.length) = some (if zst k = true then zna k else zna k - 1) ∧ zcn (zow k) = (zy k).cls ∧ (zst k = false → 1 ≤ zna k)
theorem zm_ok_0 : zmP 0 := ⟨⟨lwm_1 (j := 32) rfl, rfl⟩, ⟨lwm_1 (j := 3) rfl, rfl⟩, ⟨lwm_1 (j := 31) rfl, rfl⟩, trivial, ⟨by decide +kernel, by decide +kernel, by decide +kernel⟩, by decide +kernel, rfl, by decide +kernel⟩
theorem zm_ok_1 : zmP 1 := ⟨⟨lwm_2 (j := 145) rfl, rfl⟩, ⟨lwm_1 (j := 3) rfl, rfl⟩, ⟨lwm_2 (j := 143) rfl, rfl⟩, ⟨lwm_2 (j := 144) rfl, rfl⟩, ⟨by decide +kernel, by decide +kernel, by decide +kernel⟩, by decide +kernel, rfl, by decide +kernel⟩
theorem zm_ok_2 : zmP 2 := ⟨⟨lwm_2 (j := 97) rfl, rfl⟩, ⟨lwm_1 (j := 3) rfl, rfl⟩, ⟨lwm_2 (j := 95) rfl, rfl⟩, ⟨lwm_2 (j := 96) rfl, rfl⟩, ⟨by decide +kernel, by decide +kernel, by decide +kernel⟩, by decide +kernel, rfl, by decide +kernel⟩
theorem zm_ok_3 : zmP 3 := ⟨⟨lwm_2 (j := 128) rfl, rfl⟩, ⟨lwm_1 (j := 3) rfl, rfl⟩, ⟨lwm_2 (j := 126) rfl, rfl⟩, ⟨lwm_2 (j := 127) rfl, rfl⟩, ⟨by decide +kernel, by decide +kernel, by decide +kernel⟩, by decide +kernel, rfl, by decide +kernel⟩
theorem zm_ok_4 : zmP 4 := ⟨⟨lwm_3 (j := 33) rfl, rfl⟩, ⟨lwm_1 (j := 3) rfl, rfl⟩, ⟨lwm_3 (j := 31) rfl, rfl⟩, ⟨lwm_3 (j := 32) rfl, rfl⟩, ⟨by decide +kernel, by decide +kernel, by decide +kernel⟩, by decide +kernel, rfl, by decide +kernel⟩
theorem zm_ok_5 : zmP 5 := ⟨⟨lwm_3 (j := 37) rfl, rfl⟩, ⟨lwm_1 (j := 3) rfl, rfl⟩, ⟨lwm_3 (j := 35) rfl, rfl⟩, ⟨lwm_3 (j := 36) rfl, rfl⟩, ⟨by decide +kernel, by decide +kernel, by decide +kernel⟩, by decide +kernel, rfl, by decide +kernel⟩
theorem zm_ok_6 : zmP 6 := ⟨⟨lwm_3 (j := 58) rfl, rfl⟩, ⟨lwm_1 (j := 3) rfl, rfl⟩, ⟨lwm_3 (j := 56) rfl, rfl⟩, ⟨lwm_3 (j := 57) rfl, rfl⟩, ⟨by decide +kernel, by decide +kernel, by decide +kernel⟩, by decide +kernel, rfl, by decide +kernel⟩
theorem zm_ok_7 : zmP 7 := ⟨⟨lwm_2 (j := 120) rfl, rfl⟩, ⟨lwm_1 (j := 3) rfl, rfl⟩, ⟨lwm_2 (j := 118) rfl, rfl⟩, ⟨lwm_2 (j := 119) rfl, rfl⟩, ⟨by decide +kernel, by decide +kernel, by decide +kernel⟩, by decide +kernel, rfl, by decide +kernel⟩
theorem zm_ok_8 : zmP 8 := ⟨⟨lwm_2 (j := 116) rfl, rfl⟩, ⟨lwm_1 (j := 3) rfl, rfl⟩, ⟨lwm_2 (j := 114) rfl, rfl⟩, ⟨lwm_2 (j := 115) rfl, rfl⟩, ⟨by decide +kernel, by decide +kernel, by decide +kernel⟩, by decide +kernel, rfl, by decide +kernel⟩
theorem zm_ok_9 : zmP 9 := ⟨⟨lwm_2 (j := 152) rfl, rfl⟩, ⟨lwm_1 (j := 3) rfl, rfl⟩, ⟨lwm_2 (j := 150) rfl, rfl⟩, ⟨lwm_2 (j := 151) rfl, rfl⟩, ⟨by decide +kernel, by decide +kernel, by decide +kernel⟩, by decide +kernel, rfl, by decide +kernel⟩
theorem zm_ok_10 : zmP 10 := ⟨⟨lwm_3 (j := 77) rfl, rfl⟩, ⟨lwm_1 (j := 3) rfl, rfl⟩, ⟨lwm_3 (j := 75) rfl, rfl⟩, ⟨lwm_3 (j := 76) rfl, rfl⟩, ⟨by decide +kernel, by decide +kernel, by decide +kernel⟩, by decide +kernel, rfl, by decide +kernel⟩
theorem zm_ok_11 : zmP 11 := ⟨⟨lwm_2 (j := 135) rfl, rfl⟩, ⟨lwm_1 (j := 3) rfl, rfl⟩, ⟨lwm_2 (j := 133) rfl, rfl⟩, ⟨lwm_2 (j := 134) rfl, rfl⟩, ⟨by decide +kernel, by decide +kernel, by decide +kernel⟩, by decide +kernel, rfl, by decide +kernel⟩
theorem zm_ok_12 : zmP 12 := ⟨⟨lwm_2 (j := 167) rfl, rfl⟩, ⟨lwm_1 (j := 3) rfl, rfl⟩, ⟨lwm_2 (j := 165) rfl, rfl⟩, ⟨lwm_2 (j := 166) rfl, rfl⟩, ⟨by decide +kernel, by decide +kernel, by decide +kernel⟩, by decide +kernel, rfl, by decide +kernel⟩
theorem zm_ok_13 : zmP 13 := ⟨⟨lwm_2 (j := 40) rfl, rfl⟩, ⟨lwm_1 (j := 3) rfl, rfl⟩, ⟨lwm_2 (j := 38) rfl, rfl⟩, ⟨lwm_2 (j := 39) rfl, rfl⟩, ⟨by decide +kernel, by decide +kernel, by decide +kernel⟩, by decide +kernel, rfl, by decide +kernel⟩
theorem zm_ok_14 : zmP 14 := ⟨⟨lwm_1 (j := 193) rfl, rfl⟩, ⟨lwm_1 (j := 9) rfl, rfl⟩, ⟨lwm_1 (j := 192) rfl, rfl⟩, trivial, ⟨by decide +kernel, by decide +kernel, by decide +kernel⟩, by decide +kernel, rfl, by decide +kernel⟩
theorem zm_ok_15 : zmP 15 := ⟨⟨lwm_2 (j := 93) rfl, rfl⟩, ⟨lwm_1 (j := 9) rfl, rfl⟩, ⟨lwm_2 (j := 91) rfl, rfl⟩, ⟨lwm_2 (j := 92) rfl, rfl⟩, ⟨by decide +kernel, by decide +kernel, by decide +kernel⟩, by decide +kernel, rfl, by decide +kernel⟩
theorem zm_ok_16 : zmP 16 := ⟨⟨lwm_2 (j := 102) rfl, rfl⟩, ⟨lwm_1 (j := 9) rfl, rfl⟩, ⟨lwm_2 (j := 100) rfl, rfl⟩, ⟨lwm_2 (j := 101) rfl, rfl⟩, ⟨by decide +kernel, by decide +kernel, by decide +kernel⟩, by decide +kernel, rfl, by decide +kernel⟩
theorem zm_ok_17 : zmP 17 := ⟨⟨lwm_2 (j := 109) rfl, rfl⟩, ⟨lwm_1 (j := 9) rfl, rfl⟩, ⟨lwm_2 (j := 107) rfl, rfl⟩, ⟨lwm_2 (j := 108) rfl, rfl⟩, ⟨by decide +kernel, by decide +kernel, by decide +kernel⟩, by decide +kernel, rfl, by decide +kernel⟩
theorem zm_ok_18 : zmP 18 := ⟨⟨lwm_1 (j := 137) rfl, rfl⟩, ⟨lwm_1 (j := 6) rfl, rfl⟩, ⟨lwm_1 (j := 136) rfl, rfl⟩, trivial, ⟨by decide +kernel, by decide +kernel, by decide +kernel⟩, by decide +kernel, rfl, by decide +kernel⟩
theorem zm_ok_19 : zmP 19 := ⟨⟨lwm_2 (j := 22) rfl, rfl⟩, ⟨lwm_1 (j := 6) rfl, rfl⟩, ⟨lwm_2 (j := 20) rfl, rfl⟩, ⟨lwm_2 (j := 21) rfl, rfl⟩, ⟨by decide +kernel, by decide +kernel, by decide +kernel⟩, by decide +kernel, rfl, by decide +kernel⟩
theorem zm_ok_20 : zmP 20 := ⟨⟨lwm_3 (j := 175) rfl, rfl⟩, ⟨lwm_1 (j := 6) rfl, rfl⟩, ⟨lwm_3 (j := 173) rfl, rfl⟩, ⟨lwm_3 (j := 174) rfl, rfl⟩, ⟨by decide +kernel, by decide +kernel, by decide +kernel⟩, by decide +kernel, rfl, by decide +kernel⟩
theorem zm_ok_21 : zmP 21 := ⟨⟨lwm_1 (j := 156) rfl, rfl⟩, ⟨lwm_1 (j := 7) rfl, rfl⟩, ⟨lwm_1 (j := 155) rfl, rfl⟩, trivial, ⟨by decide +kernel, by decide +kernel, by decide +kernel⟩, by decide +kernel, rfl, by decide +kernel⟩
theorem zm_ok_22 : zmP 22 := ⟨⟨lwm_3 (j := 158) rfl, rfl⟩, ⟨lwm_1 (j := 7) rfl, rfl⟩, ⟨lwm_3 (j := 156) rfl, rfl⟩, ⟨lwm_3 (j := 157) rfl, rfl⟩, ⟨by decide +kernel, by decide +kernel, by decide +kernel⟩, by decide +kernel, rfl, by decide +kernel⟩
theorem zm_ok_23 : zmP 23 := ⟨⟨lwm_2 (j := 69) rfl, rfl⟩, ⟨lwm_1 (j := 7) rfl, rfl⟩, ⟨lwm_2 (j := 67) rfl, rfl⟩, ⟨lwm_2 (j := 68) rfl, rfl⟩, ⟨by decide +kernel, by decide +kernel, by decide +kernel⟩, by decide +kernel, rfl, by decide +kernel⟩
theorem zm_ok_24 : zmP 24 := ⟨⟨lwm_2 (j := 74) rfl, rfl⟩, ⟨lwm_1 (j := 7) rfl, rfl⟩, ⟨lwm_2 (j := 72) rfl, rfl⟩, ⟨lwm_2 (j := 73) rfl, rfl⟩, ⟨by decide +kernel, by decide +kernel, by decide +kernel⟩, by decide +kernel, rfl, by decide +kernel⟩
theorem zm_ok_25 : zmP 25 := ⟨⟨lwm_1 (j := 204) rfl, rfl⟩, ⟨lwm_1 (j := 10) rfl, rfl⟩, ⟨lwm_1 (j := 203) rfl, rfl⟩, trivial, ⟨by decide +kernel, by decide +kernel, by decide +kernel⟩, by decide +kernel, rfl, by decide +kernel⟩
theorem zm_ok_26 : zmP 26 := ⟨⟨lwm_3 (j := 96) rfl, rfl⟩, ⟨lwm_1 (j := 10) rfl, rfl⟩, ⟨lwm_3 (j := 94) rfl, rfl⟩, ⟨lwm_3 (j := 95) rfl, rfl⟩, ⟨by decide +kernel, by decide +kernel, by decide +kernel⟩, by decide +kernel, rfl, by decide +kernel⟩
theorem zm_ok_27 : zmP 27 := ⟨⟨lwm_3 (j := 99) rfl, rfl⟩, ⟨lwm_1 (j := 10) rfl, rfl⟩, ⟨lwm_3 (j := 98) rfl, rfl⟩, trivial, ⟨by decide +kernel, by decide +kernel, by decide +kernel⟩, by decide +kernel, rfl, by decide +kernel⟩
theorem zm_ok_28 : zmP 28 := ⟨⟨lwm_3 (j := 105) rfl, rfl⟩, ⟨lwm_1 (j := 10) rfl, rfl⟩, ⟨lwm_3 (j := 104) rfl, rfl⟩, ⟨lwm_0 (j := 7) rfl, rfl⟩, ⟨by decide +kernel, by decide +kernel, by decide +kernel⟩, by decide +kernel, rfl, by decide +kernel⟩
theorem zm_ok_29 : zmP 29 := ⟨⟨lwm_3 (j := 109) rfl, rfl⟩, ⟨lwm_1 (j := 10) rfl, rfl⟩, ⟨lwm_3 (j := 108) rfl, rfl⟩, trivial, ⟨by decide +kernel, by decide +kernel, by decide +kernel⟩, by decide +kernel, rfl, by decide +kernel⟩
theorem zm_ok_30 : zmP 30 := ⟨⟨lwm_3 (j := 113) rfl, rfl⟩, ⟨lwm_1 (j := 10) rfl, rfl⟩, ⟨lwm_3 (j := 112) rfl, rfl⟩, trivial, ⟨by decide +kernel, by decide +kernel, by decide +kernel⟩, by decide +kernel, rfl, by decide +kernel⟩
theorem zm_ok_31 : zmP 31 := ⟨⟨lwm_3 (j := 118) rfl, rfl⟩, ⟨lwm_1 (j := 10) rfl, rfl⟩, ⟨lwm_3 (j := 117) rfl, rfl⟩, ⟨lwm_0 (j := 8) rfl, rfl⟩, ⟨by decide +kernel, by decide +kernel, by decide +kernel⟩, by decide +kernel, rfl, by decide +kernel⟩
theorem zm_ok_32 : zmP 32 := ⟨⟨lwm_1 (j := 172) rfl, rfl⟩, ⟨lwm_1 (j := 8) rfl, rfl⟩, ⟨lwm_1 (j := 171) rfl, rfl⟩, trivial, ⟨by decide +kernel, by decide +kernel, by decide +kernel⟩, by decide +kernel, rfl, by decide +kernel⟩
theorem zm_ok_33 : zmP 33 := ⟨⟨lwm_2 (j := 180) rfl, rfl⟩, ⟨lwm_1 (j := 8) rfl, rfl⟩, ⟨lwm_2 (j := 178) rfl, rfl⟩, ⟨lwm_2 (j := 179) rfl, rfl⟩, ⟨by decide +kernel, by decide +kernel, by decide +kernel⟩, by decide +kernel, rfl, by decide +kernel⟩
theorem zm_ok_34 : zmP 34 := ⟨⟨lwm_2 (j := 210) rfl, rfl⟩, ⟨lwm_1 (j := 8) rfl, rfl⟩, ⟨lwm_2 (j := 209) rfl, rfl⟩, ⟨lwm_0 (j := 3) rfl, rfl⟩, ⟨by decide +kernel, by decide +kernel, by decide +kernel⟩, by decide +kernel, rfl, by decide +kernel⟩
theorem zm_ok_35 : zmP 35 := ⟨⟨lwm_2 (j := 198) rfl, rfl⟩, ⟨lwm_1 (j := 8) rfl, rfl⟩, ⟨lwm_2 (j := 197) rfl, rfl⟩, ⟨lwm_0 (j := 2) rfl, rfl⟩, ⟨by decide +kernel, by decide +kernel, by decide +kernel⟩, by decide +kernel, rfl, by decide +kernel⟩
theorem zm_ok_36 : zmP 36 := ⟨⟨lwm_1 (j := 26) rfl, rfl⟩, ⟨lwm_1 (j := 2) rfl, rfl⟩, ⟨lwm_1 (j := 25) rfl, rfl⟩, trivial, ⟨by decide +kernel, by decide +kernel, by decide +kernel⟩, by decide +kernel, rfl, by decide +kernel⟩
theorem zm_ok_37 : zmP 37 := ⟨⟨lwm_2 (j := 191) rfl, rfl⟩, ⟨lwm_1 (j := 2) rfl, rfl⟩, ⟨lwm_2 (j := 189) rfl, rfl⟩, ⟨lwm_2 (j := 190) rfl, rfl⟩, ⟨by decide +kernel, by decide +kernel, by decide +kernel⟩, by decide +kernel, rfl, by decide +kernel⟩
theorem zm_ok_38 : zmP 38 := ⟨⟨lwm_2 (j := 88) rfl, rfl⟩, ⟨lwm_1 (j := 2) rfl, rfl⟩, ⟨lwm_2 (j := 86) rfl, rfl⟩, ⟨lwm_2 (j := 87) rfl, rfl⟩, ⟨by decide +kernel, by decide +kernel, by decide +kernel⟩, by decide +kernel, rfl, by decide +kernel⟩
theorem zm_ok_39 : zmP 39 := ⟨⟨lwm_2 (j := 186) rfl, rfl⟩, ⟨lwm_1 (j := 2) rfl, rfl⟩, ⟨lwm_2 (j := 184) rfl, rfl⟩, ⟨lwm_2 (j := 185) rfl, rfl⟩, ⟨by decide +kernel, by decide +kernel, by decide +kernel⟩, by decide +kernel, rfl, by decide +kernel⟩
theorem zm_ok_40 : zmP 40 := ⟨⟨lwm_3 (j := 42) rfl, rfl⟩, ⟨lwm_1 (j := 2) rfl, rfl⟩, ⟨lwm_3 (j := 40) rfl, rfl⟩, ⟨lwm_3 (j := 41) rfl, rfl⟩, ⟨by decide +kernel, by decide +kernel, by decide +kernel⟩, by decide +kernel, rfl, by decide +kernel⟩
theorem zm_ok_41 : zmP 41 := ⟨⟨lwm_3 (j := 72) rfl, rfl⟩, ⟨lwm_1 (j := 2) rfl, rfl⟩, ⟨lwm_3 (j := 70) rfl, rfl⟩, ⟨lwm_3 (j := 71) rfl, rfl⟩, ⟨by decide +kernel, by decide +kernel, by decide +kernel⟩, by decide +kernel, rfl, by decide +kernel⟩
theorem zm_ok_42 : zmP 42 := ⟨⟨lwm_3 (j := 49) rfl, rfl⟩, ⟨lwm_1 (j := 2) rfl, rfl⟩, ⟨lwm_3 (j := 47) rfl, rfl⟩, ⟨lwm_3 (j := 48) rfl, rfl⟩, ⟨by decide +kernel, by decide +kernel, by decide +kernel⟩, by decide +kernel, rfl, by decide +kernel⟩
theorem zm_ok_43 : zmP 43 := ⟨⟨lwm_2 (j := 27) rfl, rfl⟩, ⟨lwm_1 (j := 2) rfl, rfl⟩, ⟨lwm_2 (j := 25) rfl, rfl⟩, ⟨lwm_2 (j := 26) rfl, rfl⟩, ⟨by decide +kernel, by decide +kernel, by decide +kernel⟩, by decide +kernel, rfl, by decide +kernel⟩
theorem zm_ok_44 : zmP 44 := ⟨⟨lwm_1 (j := 54) rfl, rfl⟩, ⟨lwm_1 (j := 4) rfl, rfl⟩, ⟨lwm_1 (j := 53) rfl, rfl⟩, trivial, ⟨by decide +kernel, by decide +kernel, by decide +kernel⟩, by decide +kernel, rfl, by decide +kernel⟩
theorem zm_ok_45 : zmP 45 := ⟨⟨lwm_3 (j := 21) rfl, rfl⟩, ⟨lwm_1 (j := 4) rfl, rfl⟩, ⟨lwm_3 (j := 19) rfl, rfl⟩, ⟨lwm_3 (j := 20) rfl, rfl⟩, ⟨by decide +kernel, by decide +kernel, by decide +kernel⟩, by decide +kernel, rfl, by decide +kernel⟩
theorem zm_ok_46 : zmP 46 := ⟨⟨lwm_3 (j := 17) rfl, rfl⟩, ⟨lwm_1 (j := 4) rfl, rfl⟩, ⟨lwm_3 (j := 15) rfl, rfl⟩, ⟨lwm_3 (j := 16) rfl, rfl⟩, ⟨by decide +kernel, by decide +kernel, by decide +kernel⟩, by decide +kernel, rfl, by decide +kernel⟩
theorem zm_ok_47 : zmP 47 := ⟨⟨lwm_3 (j := 25) rfl, rfl⟩, ⟨lwm_1 (j := 4) rfl, rfl⟩, ⟨lwm_3 (j := 23) rfl, rfl⟩, ⟨lwm_3 (j := 24) rfl, rfl⟩, ⟨by decide +kernel, by decide +kernel, by decide +kernel⟩, by decide +kernel, rfl, by decide +kernel⟩
theorem zm_ok_48 : zmP 48 := ⟨⟨lwm_3 (j := 68) rfl, rfl⟩, ⟨lwm_1 (j := 4) rfl, rfl⟩, ⟨lwm_3 (j := 66) rfl, rfl⟩, ⟨lwm_3 (j := 67) rfl, rfl⟩, ⟨by decide +kernel, by decide +kernel, by decide +kernel⟩, by decide +kernel, rfl, by decide +kernel⟩
theorem zm_ok_49 : zmP 49 := ⟨⟨lwm_3 (j := 82) rfl, rfl⟩, ⟨lwm_1 (j := 4) rfl, rfl⟩, ⟨lwm_3 (j := 80) rfl, rfl⟩, ⟨lwm_3 (j := 81) rfl, rfl⟩, ⟨by decide +kernel, by decide +kernel, by decide +kernel⟩, by decide +kernel, rfl, by decide +kernel⟩
theorem zm_ok_50 : zmP 50 := ⟨⟨lwm_2 (j := 214) rfl, rfl⟩, ⟨lwm_1 (j := 4) rfl, rfl⟩, ⟨lwm_2 (j := 212) rfl, rfl⟩, ⟨lwm_2 (j := 213) rfl, rfl⟩, ⟨by decide +kernel, by decide +kernel, by decide +kernel⟩, by decide +kernel, rfl, by decide +kernel⟩
theorem zm_ok_51 : zmP 51 := ⟨⟨lwm_2 (j := 221) rfl, rfl⟩, ⟨lwm_1 (j := 4) rfl, rfl⟩, ⟨lwm_2 (j := 220) rfl, rfl⟩, ⟨lwm_0 (j := 4) rfl, rfl⟩, ⟨by decide +kernel, by decide +kernel, by decide +kernel⟩, by decide +kernel, rfl, by decide +kernel⟩
theorem zm_ok_52 : zmP 52 := ⟨⟨lwm_3 (j := 0) rfl, rfl⟩, ⟨lwm_1 (j := 4) rfl, rfl⟩, ⟨lwm_2 (j := 239) rfl, rfl⟩, ⟨lwm_0 (j := 6) rfl, rfl⟩, ⟨by decide +kernel, by decide +kernel, by decide +kernel⟩, by decide +kernel, rfl, by decide +kernel⟩
theorem zm_ok_53 : zmP 53 := ⟨⟨lwm_2 (j := 230) rfl, rfl⟩, ⟨lwm_1 (j := 4) rfl, rfl⟩, ⟨lwm_2 (j := 229) rfl, rfl⟩, ⟨lwm_0 (j := 5) rfl, rfl⟩, ⟨by decide +kernel, by decide +kernel, by decide +kernel⟩, by decide +kernel, rfl, by decide +kernel⟩
theorem zm_ok_54 : zmP 54 := ⟨⟨lwm_2 (j := 48) rfl, rfl⟩, ⟨lwm_1 (j := 4) rfl, rfl⟩, ⟨lwm_2 (j := 46) rfl, rfl⟩, ⟨lwm_2 (j := 47) rfl, rfl⟩, ⟨by decide +kernel, by decide +kernel, by decide +kernel⟩, by decide +kernel, rfl, by decide +kernel⟩
theorem zm_ok_55 : zmP 55 := ⟨⟨lwm_1 (j := 60) rfl, rfl⟩, ⟨lwm_1 (j := 5) rfl, rfl⟩, ⟨lwm_1 (j := 59) rfl, rfl⟩, trivial, ⟨by decide +kernel, by decide +kernel, by decide +kernel⟩, by decide +kernel, rfl, by decide +kernel⟩
theorem zm_ok_56 : zmP 56 := ⟨⟨lwm_2 (j := 124) rfl, rfl⟩, ⟨lwm_1 (j := 5) rfl, rfl⟩, ⟨lwm_2 (j := 122) rfl, rfl⟩, ⟨lwm_2 (j := 123) rfl, rfl⟩, ⟨by decide +kernel, by decide +kernel, by decide +kernel⟩, by decide +kernel, rfl, by decide +kernel⟩
theorem zm_ok_57 : zmP 57 := ⟨⟨lwm_2 (j := 78) rfl, rfl⟩, ⟨lwm_1 (j := 5) rfl, rfl⟩, ⟨lwm_2 (j := 76) rfl, rfl⟩, ⟨lwm_2 (j := 77) rfl, rfl⟩, ⟨by decide +kernel, by decide +kernel, by decide +kernel⟩, by decide +kernel, rfl, by decide +kernel⟩
theorem zm_ok_58 : zmP 58 := ⟨⟨lwm_2 (j := 52) rfl, rfl⟩, ⟨lwm_1 (j := 5) rfl, rfl⟩, ⟨lwm_2 (j := 50) rfl, rfl⟩, ⟨lwm_2 (j := 51) rfl, rfl⟩, ⟨by decide +kernel, by decide +kernel, by decide +kernel⟩, by decide +kernel, rfl, by decide +kernel⟩
theorem zm_ok_59 : zmP 59 := ⟨⟨lwm_2 (j := 204) rfl, rfl⟩, ⟨lwm_1 (j := 5) rfl, rfl⟩, ⟨lwm_2 (j := 202) rfl, rfl⟩, ⟨lwm_2 (j := 203) rfl, rfl⟩, ⟨by decide +kernel, by decide +kernel, by decide +kernel⟩, by decide +kernel, rfl, by decide +kernel⟩
theorem zm_ok_60 : zmP 60 := ⟨⟨lwm_1 (j := 18) rfl, rfl⟩, ⟨lwm_1 (j := 1) rfl, rfl⟩, ⟨lwm_1 (j := 17) rfl, rfl⟩, trivial, ⟨by decide +kernel, by decide +kernel, by decide +kernel⟩, by decide +kernel, rfl, by decide +kernel⟩
theorem zm_ok_61 : zmP 61 := ⟨⟨lwm_2 (j := 11) rfl, rfl⟩, ⟨lwm_1 (j := 1) rfl, rfl⟩, ⟨lwm_2 (j := 9) rfl, rfl⟩, ⟨lwm_2 (j := 10) rfl, rfl⟩, ⟨by decide +kernel, by decide +kernel, by decide +kernel⟩, by decide +kernel, rfl, by decide +kernel⟩
theorem zm_ok_62 : zmP 62 := ⟨⟨lwm_2 (j := 61) rfl, rfl⟩, ⟨lwm_1 (j := 1) rfl, rfl⟩, ⟨lwm_2 (j := 59) rfl, rfl⟩, ⟨lwm_2 (j := 60) rfl, rfl⟩, ⟨by decide +kernel, by decide +kernel, by decide +kernel⟩, by decide +kernel, rfl, by decide +kernel⟩
theorem zm_ok_63 : zmP 63 := ⟨⟨lwm_2 (j := 141) rfl, rfl⟩, ⟨lwm_1 (j := 1) rfl, rfl⟩, ⟨lwm_2 (j := 139) rfl, rfl⟩, ⟨lwm_2 (j := 140) rfl, rfl⟩, ⟨by decide +kernel, by decide +kernel, by decide +kernel⟩, by decide +kernel, rfl, by decide +kernel⟩
theorem zm_ok_64 : zmP 64 := ⟨⟨lwm_2 (j := 163) rfl, rfl⟩, ⟨lwm_1 (j := 1) rfl, rfl⟩, ⟨lwm_2 (j := 161) rfl, rfl⟩, ⟨lwm_2 (j := 162) rfl, rfl⟩, ⟨by decide +kernel, by decide +kernel, by decide +kernel⟩, by decide +kernel, rfl, by decide +kernel⟩
theorem zm_ok_65 : zmP 65 := ⟨⟨lwm_2 (j := 171) rfl, rfl⟩, ⟨lwm_1 (j := 1) rfl, rfl⟩, ⟨lwm_2 (j := 169) rfl, rfl⟩, ⟨lwm_2 (j := 170) rfl, rfl⟩, ⟨by decide +kernel, by decide +kernel, by decide +kernel⟩, by decide +kernel, rfl, by decide +kernel⟩
theorem zm_ok_66 : zmP 66 := ⟨⟨lwm_3 (j := 9) rfl, rfl⟩, ⟨lwm_1 (j := 1) rfl, rfl⟩, ⟨lwm_3 (j := 7) rfl, rfl⟩, ⟨lwm_3 (j := 8) rfl, rfl⟩, ⟨by decide +kernel, by decide +kernel, by decide +kernel⟩, by decide +kernel, rfl, by decide +kernel⟩
theorem zm_ok_67 : zmP 67 := ⟨⟨lwm_3 (j := 13) rfl, rfl⟩, ⟨lwm_1 (j := 1) rfl, rfl⟩, ⟨lwm_3 (j := 11) rfl, rfl⟩, ⟨lwm_3 (j := 12) rfl, rfl⟩, ⟨by decide +kernel, by decide +kernel, by decide +kernel⟩, by decide +kernel, rfl, by decide +kernel⟩
theorem zm_ok_68 : zmP 68 := ⟨⟨lwm_3 (j := 29) rfl, rfl⟩, ⟨lwm_1 (j := 1) rfl, rfl⟩, ⟨lwm_3 (j := 27) rfl, rfl⟩, ⟨lwm_3 (j := 28) rfl, rfl⟩, ⟨by decide +kernel, by decide +kernel, by decide +kernel⟩, by decide +kernel, rfl, by decide +kernel⟩
theorem zm_ok_69 : zmP 69 := ⟨⟨lwm_3 (j := 54) rfl, rfl⟩, ⟨lwm_1 (j := 1) rfl, rfl⟩, ⟨lwm_3 (j := 52) rfl, rfl⟩, ⟨lwm_3 (j := 53) rfl, rfl⟩, ⟨by decide +kernel, by decide +kernel, by decide +kernel⟩, by decide +kernel, rfl, by decide +kernel⟩
theorem zm_ok_70 : zmP 70 := ⟨⟨lwm_3 (j := 64) rfl, rfl⟩, ⟨lwm_1 (j := 1) rfl, rfl⟩, ⟨lwm_3 (j := 62) rfl, rfl⟩, ⟨lwm_3 (j := 63) rfl, rfl⟩, ⟨by decide +kernel, by decide +kernel, by decide +kernel⟩, by decide +kernel, rfl, by decide +kernel⟩
theorem zm_ok_71 : zmP 71 := ⟨⟨lwm_3 (j := 87) rfl, rfl⟩, ⟨lwm_1 (j := 1) rfl, rfl⟩, ⟨lwm_3 (j := 85) rfl, rfl⟩, ⟨lwm_3 (j := 86) rfl, rfl⟩, ⟨by decide +kernel, by decide +kernel, by decide +kernel⟩, by decide +kernel, rfl, by decide +kernel⟩
theorem zm_ok_72 : zmP 72 := ⟨⟨lwm_3 (j := 92) rfl, rfl⟩, ⟨lwm_1 (j := 1) rfl, rfl⟩, ⟨lwm_3 (j := 90) rfl, rfl⟩, ⟨lwm_3 (j := 91) rfl, rfl⟩, ⟨by decide +kernel, by decide +kernel, by decide +kernel⟩, by decide +kernel, rfl, by decide +kernel⟩
theorem zm_ok_73 : zmP 73 := ⟨⟨lwm_3 (j := 125) rfl, rfl⟩, ⟨lwm_1 (j := 1) rfl, rfl⟩, ⟨lwm_3 (j := 123) rfl, rfl⟩, ⟨lwm_3 (j := 124) rfl, rfl⟩, ⟨by decide +kernel, by decide +kernel, by decide +kernel⟩, by decide +kernel, rfl, by decide +kernel⟩
theorem zm_ok_74 : zmP 74 := ⟨⟨lwm_3 (j := 129) rfl, rfl⟩, ⟨lwm_1 (j := 1) rfl, rfl⟩, ⟨lwm_3 (j := 127) rfl, rfl⟩, ⟨lwm_3 (j := 128) rfl, rfl⟩, ⟨by decide +kernel, by decide +kernel, by decide +kernel⟩, by decide +kernel, rfl, by decide +kernel⟩
theorem zm_ok_75 : zmP 75 := ⟨⟨lwm_3 (j := 133) rfl, rfl⟩, ⟨lwm_1 (j := 1) rfl, rfl⟩, ⟨lwm_3 (j := 131) rfl, rfl⟩, ⟨lwm_3 (j := 132) rfl, rfl⟩, ⟨by decide +kernel, by decide +kernel, by decide +kernel⟩, by decide +kernel, rfl, by decide +kernel⟩
theorem zm_ok_76 : zmP 76 := ⟨⟨lwm_3 (j := 137) rfl, rfl⟩, ⟨lwm_1 (j := 1) rfl, rfl⟩, ⟨lwm_3 (j := 135) rfl, rfl⟩, ⟨lwm_3 (j := 136) rfl, rfl⟩, ⟨by decide +kernel, by decide +kernel, by decide +kernel⟩, by decide +kernel, rfl, by decide +kernel⟩
theorem zm_ok_77 : zmP 77 := ⟨⟨lwm_3 (j := 141) rfl, rfl⟩, ⟨lwm_1 (j := 1) rfl, rfl⟩, ⟨lwm_3 (j := 139) rfl, rfl⟩, ⟨lwm_3 (j := 140) rfl, rfl⟩, ⟨by decide +kernel, by decide +kernel, by decide +kernel⟩, by decide +kernel, rfl, by decide +kernel⟩
theorem zm_ok_78 : zmP 78 := ⟨⟨lwm_3 (j := 146) rfl, rfl⟩, ⟨lwm_1 (j := 1) rfl, rfl⟩, ⟨lwm_3 (j := 144) rfl, rfl⟩, ⟨lwm_3 (j := 145) rfl, rfl⟩, ⟨by decide +kernel, by decide +kernel, by decide +kernel⟩, by decide +kernel, rfl, by decide +kernel⟩
theorem zm_ok_79 : zmP 79 := ⟨⟨lwm_3 (j := 151) rfl, rfl⟩, ⟨lwm_1 (j := 1) rfl, rfl⟩, ⟨lwm_3 (j := 149) rfl, rfl⟩, ⟨lwm_3 (j := 150) rfl, rfl⟩, ⟨by decide +kernel, by decide +kernel, by decide +kernel⟩, by decide +kernel, rfl, by decide +kernel⟩
theorem zm_ok_80 : zmP 80 := ⟨⟨lwm_3 (j := 163) rfl, rfl⟩, ⟨lwm_1 (j := 1) rfl, rfl⟩, ⟨lwm_3 (j := 161) rfl, rfl⟩, ⟨lwm_3 (j := 162) rfl, rfl⟩, ⟨by decide +kernel, by decide +kernel, by decide +kernel⟩, by decide +kernel, rfl, by decide +kernel⟩
theorem zm_ok_81 : zmP 81 := ⟨⟨lwm_3 (j := 167) rfl, rfl⟩, ⟨lwm_1 (j := 1) rfl, rfl⟩, ⟨lwm_3 (j := 165) rfl, rfl⟩, ⟨lwm_3 (j := 166) rfl, rfl⟩, ⟨by decide +kernel, by decide +kernel, by decide +kernel⟩, by decide +kernel, rfl, by decide +kernel⟩
theorem zm_ok_82 : zmP 82 := ⟨⟨lwm_3 (j := 171) rfl, rfl⟩, ⟨lwm_1 (j := 1) rfl, rfl⟩, ⟨lwm_3 (j := 169) rfl, rfl⟩, ⟨lwm_3 (j := 170) rfl, rfl⟩, ⟨by decide +kernel, by decide +kernel, by decide +kernel⟩, by decide +kernel, rfl, by decide +kernel⟩
theorem zm_ok_83 : zmP 83 := ⟨⟨lwm_3 (j := 179) rfl, rfl⟩, ⟨lwm_1 (j := 1) rfl, rfl⟩, ⟨lwm_3 (j := 177) rfl, rfl⟩, ⟨lwm_3 (j := 178) rfl, rfl⟩, ⟨by decide +kernel, by decide +kernel, by decide +kernel⟩, by decide +kernel, rfl, by decide +kernel⟩
theorem zm_ok_84 : zmP 84 := ⟨⟨lwm_3 (j := 184) rfl, rfl⟩, ⟨lwm_1 (j := 1) rfl, rfl⟩, ⟨lwm_3 (j := 182) rfl, rfl⟩, ⟨lwm_3 (j := 183) rfl, rfl⟩, ⟨by decide +kernel, by decide +kernel, by decide +kernel⟩, by decide +kernel, rfl, by decide +kernel⟩
theorem zm_ok_85 : zmP 85 := ⟨⟨lwm_2 (j := 65) rfl, rfl⟩, ⟨lwm_1 (j := 1) rfl, rfl⟩, ⟨lwm_2 (j := 64) rfl, rfl⟩, ⟨lwm_0 (j := 0) rfl, rfl⟩, ⟨by decide +kernel, by decide +kernel, by decide +kernel⟩, by decide +kernel, rfl, by decide +kernel⟩
theorem zm_ok_86 : zmP 86 := ⟨⟨lwm_2 (j := 176) rfl, rfl⟩, ⟨lwm_1 (j := 1) rfl, rfl⟩, ⟨lwm_2 (j := 175) rfl, rfl⟩, ⟨lwm_0 (j := 1) rfl, rfl⟩, ⟨by decide +kernel, by decide +kernel, by decide +kernel⟩, by decide +kernel, rfl, by decide +kernel⟩
theorem zm_ok_87 : zmP 87 := ⟨⟨lwm_3 (j := 154) rfl, rfl⟩, ⟨lwm_1 (j := 1) rfl, rfl⟩, ⟨lwm_3 (j := 153) rfl, rfl⟩, trivial, ⟨by decide +kernel, by decide +kernel, by decide +kernel⟩, by decide +kernel, rfl, by decide +kernel⟩
theorem zm_ok_88 : zmP 88 := ⟨⟨lwm_2 (j := 148) rfl, rfl⟩, ⟨lwm_1 (j := 1) rfl, rfl⟩, ⟨lwm_2 (j := 147) rfl, rfl⟩, trivial, ⟨by decide +kernel, by decide +kernel, by decide +kernel⟩, by decide +kernel, rfl, by decide +kernel⟩
theorem zm_ok_89 : zmP 89 := ⟨⟨lwm_3 (j := 3) rfl, rfl⟩, ⟨lwm_1 (j := 1) rfl, rfl⟩, ⟨lwm_3 (j := 2) rfl, rfl⟩, trivial, ⟨by decide +kernel, by decide +kernel, by decide +kernel⟩, by decide +kernel, rfl, by decide +kernel⟩
theorem zm_ok_90 : zmP 90 := ⟨⟨lwm_2 (j := 156) rfl, rfl⟩, ⟨lwm_1 (j := 1) rfl, rfl⟩, ⟨lwm_2 (j := 155) rfl, rfl⟩, trivial, ⟨by decide +kernel, by decide +kernel, by decide +kernel⟩, by decide +kernel, rfl, by decide +kernel⟩
theorem zm_ok_91 : zmP 91 := ⟨⟨lwm_2 (j := 105) rfl, rfl⟩, ⟨lwm_1 (j := 1) rfl, rfl⟩, ⟨lwm_2 (j := 104) rfl, rfl⟩, trivial, ⟨by decide +kernel, by decide +kernel, by decide +kernel⟩, by decide +kernel, rfl, by decide +kernel⟩
theorem zm_ok_92 : zmP 92 := ⟨⟨lwm_2 (j := 84) rfl, rfl⟩, ⟨lwm_1 (j := 1) rfl, rfl⟩, ⟨lwm_2 (j := 83) rfl, rfl⟩, trivial, ⟨by decide +kernel, by decide +kernel, by decide +kernel⟩, by decide +kernel, rfl, by decide +kernel⟩
theorem zm_ok_93 : zmP 93 := ⟨⟨lwm_2 (j := 194) rfl, rfl⟩, ⟨lwm_1 (j := 1) rfl, rfl⟩, ⟨lwm_2 (j := 193) rfl, rfl⟩, trivial, ⟨by decide +kernel, by decide +kernel, by decide +kernel⟩, by decide +kernel, rfl, by decide +kernel⟩
theorem zm_ok_94 : zmP 94 := ⟨⟨lwm_2 (j := 225) rfl, rfl⟩, ⟨lwm_1 (j := 1) rfl, rfl⟩, ⟨lwm_2 (j := 224) rfl, rfl⟩, trivial, ⟨by decide +kernel, by decide +kernel, by decide +kernel⟩, by decide +kernel, rfl, by decide +kernel⟩
theorem zm_ok_95 : zmP 95 := ⟨⟨lwm_2 (j := 233) rfl, rfl⟩, ⟨lwm_1 (j := 1) rfl, rfl⟩, ⟨lwm_2 (j := 232) rfl, rfl⟩, trivial, ⟨by decide +kernel, by decide +kernel, by decide +kernel⟩, by decide +kernel, rfl, by decide +kernel⟩
theorem zm_ok_96 : zmP 96 := ⟨⟨lwm_2 (j := 16) rfl, rfl⟩, ⟨lwm_1 (j := 1) rfl, rfl⟩, ⟨lwm_2 (j := 15) rfl, rfl⟩, trivial, ⟨by decide +kernel, by decide +kernel, by decide +kernel⟩, by decide +kernel, rfl, by decide +kernel⟩
theorem zm_ok_97 : zmP 97 := ⟨⟨lwm_2 (j := 131) rfl, rfl⟩, ⟨lwm_1 (j := 1) rfl, rfl⟩, ⟨lwm_2 (j := 130) rfl, rfl⟩, trivial, ⟨by decide +kernel, by decide +kernel, by decide +kernel⟩, by decide +kernel, rfl, by decide +kernel⟩
theorem zm_ok_98 : zmP 98 := ⟨⟨lwm_2 (j := 57) rfl, rfl⟩, ⟨lwm_1 (j := 1) rfl, rfl⟩, ⟨lwm_2 (j := 56) rfl, rfl⟩, trivial, ⟨by decide +kernel, by decide +kernel, by decide +kernel⟩, by decide +kernel, rfl, by decide +kernel⟩
theorem zm_ok_99 : zmP 99 := ⟨⟨lwm_2 (j := 81) rfl, rfl⟩, ⟨lwm_1 (j := 1) rfl, rfl⟩, ⟨lwm_2 (j := 80) rfl, rfl⟩, trivial, ⟨by decide +kernel, by decide +kernel, by decide +kernel⟩, by decide +kernel, rfl, by decide +kernel⟩
theorem zm_ok_100 : zmP 100 := ⟨⟨lwm_2 (j := 30) rfl, rfl⟩, ⟨lwm_1 (j := 1) rfl, rfl⟩, ⟨lwm_2 (j := 29) rfl, rfl⟩, trivial, ⟨by decide +kernel, by decide +kernel, by decide +kernel⟩, by decide +kernel, rfl, by decide +kernel⟩
theorem zm_ok_101 : zmP 101 := ⟨⟨lwm_2 (j := 44) rfl, rfl⟩, ⟨lwm_1 (j := 1) rfl, rfl⟩, ⟨lwm_2 (j := 43) rfl, rfl⟩, trivial, ⟨by decide +kernel, by decide +kernel, by decide +kernel⟩, by decide +kernel, rfl, by decide +kernel⟩
theorem zm_ok_102 : zmP 102 := ⟨⟨lwm_3 (j := 189) rfl, rfl⟩, ⟨lwm_1 (j := 11) rfl, rfl⟩, ⟨lwm_3 (j := 188) rfl, rfl⟩, trivial, ⟨by decide +kernel, by decide +kernel, by decide +kernel⟩, by decide +kernel, rfl, by decide +kernel⟩
theorem zm_ok_103 : zmP 103 := ⟨⟨lwm_4 (j := 19) rfl, rfl⟩, ⟨lwm_1 (j := 11) rfl, rfl⟩, ⟨lwm_4 (j := 18) rfl, rfl⟩, trivial, ⟨by decide +kernel, by decide +kernel, by decide +kernel⟩, by decide +kernel, rfl, by decide +kernel⟩
theorem zm_ok_104 : zmP 104 := ⟨⟨lwm_4 (j := 12) rfl, rfl⟩, ⟨lwm_1 (j := 11) rfl, rfl⟩, ⟨lwm_4 (j := 11) rfl, rfl⟩, trivial, ⟨by decide +kernel, by decide +kernel, by decide +kernel⟩, by decide +kernel, rfl, by decide +kernel⟩
theorem zm_ok_105 : zmP 105 := ⟨⟨lwm_4 (j := 16) rfl, rfl⟩, ⟨lwm_1 (j := 11) rfl, rfl⟩, ⟨lwm_4 (j := 15) rfl, rfl⟩, ⟨lwm_0 (j := 9) rfl, rfl⟩, ⟨by decide +kernel, by decide +kernel, by decide +kernel⟩, by decide +kernel, rfl, by decide +kernel⟩
theorem zm_ok_106 : zmP 106 := ⟨⟨lwm_4 (j := 30) rfl, rfl⟩, ⟨lwm_1 (j := 11) rfl, rfl⟩, ⟨lwm_4 (j := 29) rfl, rfl⟩, trivial, ⟨by decide +kernel, by decide +kernel, by decide +kernel⟩, by decide +kernel, rfl, by decide +kernel⟩
theorem zm_ok_107 : zmP 107 := ⟨⟨lwm_4 (j := 27) rfl, rfl⟩, ⟨lwm_1 (j := 11) rfl, rfl⟩, ⟨lwm_4 (j := 26) rfl, rfl⟩, ⟨lwm_0 (j := 10) rfl, rfl⟩, ⟨by decide +kernel, by decide +kernel, by decide +kernel⟩, by decide +kernel, rfl, by decide +kernel⟩
theorem zm_ok_108 : zmP 108 := ⟨⟨lwm_4 (j := 38) rfl, rfl⟩, ⟨lwm_1 (j := 11) rfl, rfl⟩, ⟨lwm_4 (j := 37) rfl, rfl⟩, ⟨lwm_0 (j := 12) rfl, rfl⟩, ⟨by decide +kernel, by decide +kernel, by decide +kernel⟩, by decide +kernel, rfl, by decide +kernel⟩
theorem zm_ok_109 : zmP 109 := ⟨⟨lwm_4 (j := 34) rfl, rfl⟩, ⟨lwm_1 (j := 11) rfl, rfl⟩, ⟨lwm_4 (j := 33) rfl, rfl⟩, ⟨lwm_0 (j := 11) rfl, rfl⟩, ⟨by decide +kernel, by decide +kernel, by decide +kernel⟩, by decide +kernel, rfl, by decide +kernel⟩
theorem zm_ok_110 : zmP 110 := ⟨⟨lwm_4 (j := 132) rfl, rfl⟩, ⟨lwm_1 (j := 11) rfl, rfl⟩, ⟨lwm_4 (j := 131) rfl, rfl⟩, ⟨lwm_0 (j := 30) rfl, rfl⟩, ⟨by decide +kernel, by decide +kernel, by decide +kernel⟩, by decide +kernel, rfl, by decide +kernel⟩
theorem zm_ok_111 : zmP 111 := ⟨⟨lwm_4 (j := 60) rfl, rfl⟩, ⟨lwm_1 (j := 11) rfl, rfl⟩, ⟨lwm_4 (j := 59) rfl, rfl⟩, trivial, ⟨by decide +kernel, by decide +kernel, by decide +kernel⟩, by decide +kernel, rfl, by decide +kernel⟩
theorem zm_ok_112 : zmP 112 := ⟨⟨lwm_4 (j := 57) rfl, rfl⟩, ⟨lwm_1 (j := 11) rfl, rfl⟩, ⟨lwm_4 (j := 56) rfl, rfl⟩, trivial, ⟨by decide +kernel, by decide +kernel, by decide +kernel⟩, by decide +kernel, rfl, by decide +kernel⟩
theorem zm_ok_113 : zmP 113 := ⟨⟨lwm_4 (j := 80) rfl, rfl⟩, ⟨lwm_1 (j := 11) rfl, rfl⟩, ⟨lwm_4 (j := 79) rfl, rfl⟩, ⟨lwm_0 (j := 20) rfl, rfl⟩, ⟨by decide +kernel, by decide +kernel, by decide +kernel⟩, by decide +kernel, rfl, by decide +kernel⟩
theorem zm_ok_114 : zmP 114 := ⟨⟨lwm_4 (j := 50) rfl, rfl⟩, ⟨lwm_1 (j := 11) rfl, rfl⟩, ⟨lwm_4 (j := 49) rfl, rfl⟩, ⟨lwm_0 (j := 15) rfl, rfl⟩, ⟨by decide +kernel, by decide +kernel, by decide +kernel⟩, by decide +kernel, rfl, by decide +kernel⟩
theorem zm_ok_115 : zmP 115 := ⟨⟨lwm_4 (j := 46) rfl, rfl⟩, ⟨lwm_1 (j := 11) rfl, rfl⟩, ⟨lwm_4 (j := 45) rfl, rfl⟩, ⟨lwm_0 (j := 14) rfl, rfl⟩, ⟨by decide +kernel, by decide +kernel, by decide +kernel⟩, by decide +kernel, rfl, by decide +kernel⟩
theorem zm_ok_116 : zmP 116 := ⟨⟨lwm_4 (j := 54) rfl, rfl⟩, ⟨lwm_1 (j := 11) rfl, rfl⟩, ⟨lwm_4 (j := 53) rfl, rfl⟩, ⟨lwm_0 (j := 16) rfl, rfl⟩, ⟨by decide +kernel, by decide +kernel, by decide +kernel⟩, by decide +kernel, rfl, by decide +kernel⟩
theorem zm_ok_117 : zmP 117 := ⟨⟨lwm_4 (j := 42) rfl, rfl⟩, ⟨lwm_1 (j := 11) rfl, rfl⟩, ⟨lwm_4 (j := 41) rfl, rfl⟩, ⟨lwm_0 (j := 13) rfl, rfl⟩, ⟨by decide +kernel, by decide +kernel, by decide +kernel⟩, by decide +kernel, rfl, by decide +kernel⟩
theorem zm_ok_118 : zmP 118 := ⟨⟨lwm_4 (j := 156) rfl, rfl⟩, ⟨lwm_1 (j := 11) rfl, rfl⟩, ⟨lwm_4 (j := 155) rfl, rfl⟩, ⟨lwm_0 (j := 34) rfl, rfl⟩, ⟨by decide +kernel, by decide +kernel, by decide +kernel⟩, by decide +kernel, rfl, by decide +kernel⟩
theorem zm_ok_119 : zmP 119 := ⟨⟨lwm_4 (j := 108) rfl, rfl⟩, ⟨lwm_1 (j := 11) rfl, rfl⟩, ⟨lwm_4 (j := 107) rfl, rfl⟩, ⟨lwm_0 (j := 25) rfl, rfl⟩, ⟨by decide +kernel, by decide +kernel, by decide +kernel⟩, by decide +kernel, rfl, by decide +kernel⟩
theorem zm_ok_120 : zmP 120 := ⟨⟨lwm_4 (j := 72) rfl, rfl⟩, ⟨lwm_1 (j := 11) rfl, rfl⟩, ⟨lwm_4 (j := 71) rfl, rfl⟩, ⟨lwm_0 (j := 19) rfl, rfl⟩, ⟨by decide +kernel, by decide +kernel, by decide +kernel⟩, by decide +kernel, rfl, by decide +kernel⟩
theorem zm_ok_121 : zmP 121 := ⟨⟨lwm_4 (j := 68) rfl, rfl⟩, ⟨lwm_1 (j := 11) rfl, rfl⟩, ⟨lwm_4 (j := 67) rfl, rfl⟩, ⟨lwm_0 (j := 18) rfl, rfl⟩, ⟨by decide +kernel, by decide +kernel, by decide +kernel⟩, by decide +kernel, rfl, by decide +kernel⟩
theorem zm_ok_122 : zmP 122 := ⟨⟨lwm_4 (j := 104) rfl, rfl⟩, ⟨lwm_1 (j := 11) rfl, rfl⟩, ⟨lwm_4 (j := 103) rfl, rfl⟩, ⟨lwm_0 (j := 24) rfl, rfl⟩, ⟨by decide +kernel, by decide +kernel, by decide +kernel⟩, by decide +kernel, rfl, by decide +kernel⟩
theorem zm_ok_123 : zmP 123 := ⟨⟨lwm_4 (j := 64) rfl, rfl⟩, ⟨lwm_1 (j := 11) rfl, rfl⟩, ⟨lwm_4 (j := 63) rfl, rfl⟩, ⟨lwm_0 (j := 17) rfl, rfl⟩, ⟨by decide +kernel, by decide +kernel, by decide +kernel⟩, by decide +kernel, rfl, by decide +kernel⟩
theorem zm_ok_124 : zmP 124 := ⟨⟨lwm_4 (j := 100) rfl, rfl⟩, ⟨lwm_1 (j := 11) rfl, rfl⟩, ⟨lwm_4 (j := 99) rfl, rfl⟩, ⟨lwm_0 (j := 23) rfl, rfl⟩, ⟨by decide +kernel, by decide +kernel, by decide +kernel⟩, by decide +kernel, rfl, by decide +kernel⟩
theorem zm_ok_125 : zmP 125 := ⟨⟨lwm_5 (j := 0) rfl, rfl⟩, ⟨lwm_1 (j := 11) rfl, rfl⟩, ⟨lwm_4 (j := 239) rfl, rfl⟩, ⟨lwm_0 (j := 49) rfl, rfl⟩, ⟨by decide +kernel, by decide +kernel, by decide +kernel⟩, by decide +kernel, rfl, by decide +kernel⟩
theorem zm_ok_126 : zmP 126 := ⟨⟨lwm_4 (j := 176) rfl, rfl⟩, ⟨lwm_1 (j := 11) rfl, rfl⟩, ⟨lwm_4 (j := 175) rfl, rfl⟩, ⟨lwm_0 (j := 37) rfl, rfl⟩, ⟨by decide +kernel, by decide +kernel, by decide +kernel⟩, by decide +kernel, rfl, by decide +kernel⟩
theorem zm_ok_127 : zmP 127 := ⟨⟨lwm_4 (j := 144) rfl, rfl⟩, ⟨lwm_1 (j := 11) rfl, rfl⟩, ⟨lwm_4 (j := 143) rfl, rfl⟩, ⟨lwm_0 (j := 32) rfl, rfl⟩, ⟨by decide +kernel, by decide +kernel, by decide +kernel⟩, by decide +kernel, rfl, by decide +kernel⟩
theorem zm_ok_128 : zmP 128 := ⟨⟨lwm_4 (j := 112) rfl, rfl⟩, ⟨lwm_1 (j := 11) rfl, rfl⟩, ⟨lwm_4 (j := 111) rfl, rfl⟩, ⟨lwm_0 (j := 26) rfl, rfl⟩, ⟨by decide +kernel, by decide +kernel, by decide +kernel⟩, by decide +kernel, rfl, by decide +kernel⟩
theorem zm_ok_129 : zmP 129 := ⟨⟨lwm_4 (j := 120) rfl, rfl⟩, ⟨lwm_1 (j := 11) rfl, rfl⟩, ⟨lwm_4 (j := 119) rfl, rfl⟩, ⟨lwm_0 (j := 28) rfl, rfl⟩, ⟨by decide +kernel, by decide +kernel, by decide +kernel⟩, by decide +kernel, rfl, by decide +kernel⟩
theorem zm_ok_130 : zmP 130 := ⟨⟨lwm_4 (j := 116) rfl, rfl⟩, ⟨lwm_1 (j := 11) rfl, rfl⟩, ⟨lwm_4 (j := 115) rfl, rfl⟩, ⟨lwm_0 (j := 27) rfl, rfl⟩, ⟨by decide +kernel, by decide +kernel, by decide +kernel⟩, by decide +kernel, rfl, by decide +kernel⟩
theorem zm_ok_131 : zmP 131 := ⟨⟨lwm_4 (j := 124) rfl, rfl⟩, ⟨lwm_1 (j := 11) rfl, rfl⟩, ⟨lwm_4 (j := 123) rfl, rfl⟩, ⟨lwm_0 (j := 29) rfl, rfl⟩, ⟨by decide +kernel, by decide +kernel, by decide +kernel⟩, by decide +kernel, rfl, by decide +kernel⟩
theorem zm_ok_132 : zmP 132 := ⟨⟨lwm_4 (j := 96) rfl, rfl⟩, ⟨lwm_1 (j := 11) rfl, rfl⟩, ⟨lwm_4 (j := 95) rfl, rfl⟩, ⟨lwm_0 (j := 22) rfl, rfl⟩, ⟨by decide +kernel, by decide +kernel, by decide +kernel⟩, by decide +kernel, rfl, by decide +kernel⟩
theorem zm_ok_133 : zmP 133 := ⟨⟨lwm_4 (j := 9) rfl, rfl⟩, ⟨lwm_1 (j := 11) rfl, rfl⟩, ⟨lwm_4 (j := 8) rfl, rfl⟩, trivial, ⟨by decide +kernel, by decide +kernel, by decide +kernel⟩, by decide +kernel, rfl, by decide +kernel⟩
theorem zm_ok_134 : zmP 134 := ⟨⟨lwm_4 (j := 6) rfl, rfl⟩, ⟨lwm_1 (j := 11) rfl, rfl⟩, ⟨lwm_4 (j := 4) rfl, rfl⟩, ⟨lwm_4 (j := 5) rfl, rfl⟩, ⟨by decide +kernel, by decide +kernel, by decide +kernel⟩, by decide +kernel, rfl, by decide +kernel⟩
theorem zm_ok_135 : zmP 135 := ⟨⟨lwm_4 (j := 23) rfl, rfl⟩, ⟨lwm_1 (j := 11) rfl, rfl⟩, ⟨lwm_4 (j := 21) rfl, rfl⟩, ⟨lwm_4 (j := 22) rfl, rfl⟩, ⟨by decide +kernel, by decide +kernel, by decide +kernel⟩, by decide +kernel, rfl, by decide +kernel⟩
theorem zm_ok_136 : zmP 136 := ⟨⟨lwm_4 (j := 84) rfl, rfl⟩, ⟨lwm_1 (j := 11) rfl, rfl⟩, ⟨lwm_4 (j := 83) rfl, rfl⟩, ⟨lwm_0 (j := 21) rfl, rfl⟩, ⟨by decide +kernel, by decide +kernel, by decide +kernel⟩, by decide +kernel, rfl, by decide +kernel⟩
theorem zm_ok_137 : zmP 137 := ⟨⟨lwm_4 (j := 76) rfl, rfl⟩, ⟨lwm_1 (j := 11) rfl, rfl⟩, ⟨lwm_4 (j := 74) rfl, rfl⟩, ⟨lwm_4 (j := 75) rfl, rfl⟩, ⟨by decide +kernel, by decide +kernel, by decide +kernel⟩, by decide +kernel, rfl, by decide +kernel⟩
theorem zm_ok_138 : zmP 138 := ⟨⟨lwm_4 (j := 88) rfl, rfl⟩, ⟨lwm_1 (j := 11) rfl, rfl⟩, ⟨lwm_4 (j := 86) rfl, rfl⟩, ⟨lwm_4 (j := 87) rfl, rfl⟩, ⟨by decide +kernel, by decide +kernel, by decide +kernel⟩, by decide +kernel, rfl, by decide +kernel⟩
theorem zm_ok_139 : zmP 139 := ⟨⟨lwm_4 (j := 92) rfl, rfl⟩, ⟨lwm_1 (j := 11) rfl, rfl⟩, ⟨lwm_4 (j := 90) rfl, rfl⟩, ⟨lwm_4 (j := 91) rfl, rfl⟩, ⟨by decide +kernel, by decide +kernel, by decide +kernel⟩, by decide +kernel, rfl, by decide +kernel⟩
theorem zm_ok_140 : zmP 140 := ⟨⟨lwm_4 (j := 128) rfl, rfl⟩, ⟨lwm_1 (j := 11) rfl, rfl⟩, ⟨lwm_4 (j := 126) rfl, rfl⟩, ⟨lwm_4 (j := 127) rfl, rfl⟩, ⟨by decide +kernel, by decide +kernel, by decide +kernel⟩, by decide +kernel, rfl, by decide +kernel⟩
theorem zm_ok_141 : zmP 141 := ⟨⟨lwm_4 (j := 140) rfl, rfl⟩, ⟨lwm_1 (j := 11) rfl, rfl⟩, ⟨lwm_4 (j := 139) rfl, rfl⟩, ⟨lwm_0 (j := 31) rfl, rfl⟩, ⟨by decide +kernel, by decide +kernel, by decide +kernel⟩, by decide +kernel, rfl, by decide +kernel⟩
theorem zm_ok_142 : zmP 142 := ⟨⟨lwm_4 (j := 136) rfl, rfl⟩, ⟨lwm_1 (j := 11) rfl, rfl⟩, ⟨lwm_4 (j := 134) rfl, rfl⟩, ⟨lwm_4 (j := 135) rfl, rfl⟩, ⟨by decide +kernel, by decide +kernel, by decide +kernel⟩, by decide +kernel, rfl, by decide +kernel⟩
theorem zm_ok_143 : zmP 143 := ⟨⟨lwm_4 (j := 152) rfl, rfl⟩, ⟨lwm_1 (j := 11) rfl, rfl⟩, ⟨lwm_4 (j := 151) rfl, rfl⟩, ⟨lwm_0 (j := 33) rfl, rfl⟩, ⟨by decide +kernel, by decide +kernel, by decide +kernel⟩, by decide +kernel, rfl, by decide +kernel⟩
theorem zm_ok_144 : zmP 144 := ⟨⟨lwm_4 (j := 160) rfl, rfl⟩, ⟨lwm_1 (j := 11) rfl, rfl⟩, ⟨lwm_4 (j := 159) rfl, rfl⟩, ⟨lwm_0 (j := 35) rfl, rfl⟩, ⟨by decide +kernel, by decide +kernel, by decide +kernel⟩, by decide +kernel, rfl, by decide +kernel⟩
theorem zm_ok_145 : zmP 145 := ⟨⟨lwm_4 (j := 164) rfl, rfl⟩, ⟨lwm_1 (j := 11) rfl, rfl⟩, ⟨lwm_4 (j := 163) rfl, rfl⟩, ⟨lwm_0 (j := 36) rfl, rfl⟩, ⟨by decide +kernel, by decide +kernel, by decide +kernel⟩, by decide +kernel, rfl, by decide +kernel⟩
theorem zm_ok_146 : zmP 146 := ⟨⟨lwm_4 (j := 148) rfl, rfl⟩, ⟨lwm_1 (j := 11) rfl, rfl⟩, ⟨lwm_4 (j := 146) rfl, rfl⟩, ⟨lwm_4 (j := 147) rfl, rfl⟩, ⟨by decide +kernel, by decide +kernel, by decide +kernel⟩, by decide +kernel, rfl, by decide +kernel⟩
theorem zm_ok_147 : zmP 147 := ⟨⟨lwm_4 (j := 168) rfl, rfl⟩, ⟨lwm_1 (j := 11) rfl, rfl⟩, ⟨lwm_4 (j := 166) rfl, rfl⟩, ⟨lwm_4 (j := 167) rfl, rfl⟩, ⟨by decide +kernel, by decide +kernel, by decide +kernel⟩, by decide +kernel, rfl, by decide +kernel⟩
theorem zm_ok_148 : zmP 148 := ⟨⟨lwm_4 (j := 180) rfl, rfl⟩, ⟨lwm_1 (j := 11) rfl, rfl⟩, ⟨lwm_4 (j := 179) rfl, rfl⟩, ⟨lwm_0 (j := 38) rfl, rfl⟩, ⟨by decide +kernel, by decide +kernel, by decide +kernel⟩, by decide +kernel, rfl, by decide +kernel⟩
theorem zm_ok_149 : zmP 149 := ⟨⟨lwm_4 (j := 184) rfl, rfl⟩, ⟨lwm_1 (j := 11) rfl, rfl⟩, ⟨lwm_4 (j := 183) rfl, rfl⟩, ⟨lwm_0 (j := 39) rfl, rfl⟩, ⟨by decide +kernel, by decide +kernel, by decide +kernel⟩, by decide +kernel, rfl, by decide +kernel⟩
theorem zm_ok_150 : zmP 150 := ⟨⟨lwm_4 (j := 172) rfl, rfl⟩, ⟨lwm_1 (j := 11) rfl, rfl⟩, ⟨lwm_4 (j := 170) rfl, rfl⟩, ⟨lwm_4 (j := 171) rfl, rfl⟩, ⟨by decide +kernel, by decide +kernel, by decide +kernel⟩, by decide +kernel, rfl, by decide +kernel⟩
theorem zm_ok_151 : zmP 151 := ⟨⟨lwm_4 (j := 188) rfl, rfl⟩, ⟨lwm_1 (j := 11) rfl, rfl⟩, ⟨lwm_4 (j := 186) rfl, rfl⟩, ⟨lwm_4 (j := 187) rfl, rfl⟩, ⟨by decide +kernel, by decide +kernel, by decide +kernel⟩, by decide +kernel, rfl, by decide +kernel⟩
theorem zm_ok_152 : zmP 152 := ⟨⟨lwm_4 (j := 200) rfl, rfl⟩, ⟨lwm_1 (j := 11) rfl, rfl⟩, ⟨lwm_4 (j := 199) rfl, rfl⟩, ⟨lwm_0 (j := 41) rfl, rfl⟩, ⟨by decide +kernel, by decide +kernel, by decide +kernel⟩, by decide +kernel, rfl, by decide +kernel⟩
theorem zm_ok_153 : zmP 153 := ⟨⟨lwm_4 (j := 212) rfl, rfl⟩, ⟨lwm_1 (j := 11) rfl, rfl⟩, ⟨lwm_4 (j := 211) rfl, rfl⟩, ⟨lwm_0 (j := 44) rfl, rfl⟩, ⟨by decide +kernel, by decide +kernel, by decide +kernel⟩, by decide +kernel, rfl, by decide +kernel⟩
theorem zm_ok_154 : zmP 154 := ⟨⟨lwm_4 (j := 208) rfl, rfl⟩, ⟨lwm_1 (j := 11) rfl, rfl⟩, ⟨lwm_4 (j := 207) rfl, rfl⟩, ⟨lwm_0 (j := 43) rfl, rfl⟩, ⟨by decide +kernel, by decide +kernel, by decide +kernel⟩, by decide +kernel, rfl, by decide +kernel⟩
theorem zm_ok_155 : zmP 155 := ⟨⟨lwm_4 (j := 220) rfl, rfl⟩, ⟨lwm_1 (j := 11) rfl, rfl⟩, ⟨lwm_4 (j := 219) rfl, rfl⟩, ⟨lwm_0 (j := 46) rfl, rfl⟩, ⟨by decide +kernel, by decide +kernel, by decide +kernel⟩, by decide +kernel, rfl, by decide +kernel⟩
theorem zm_ok_156 : zmP 156 := ⟨⟨lwm_4 (j := 204) rfl, rfl⟩, ⟨lwm_1 (j := 11) rfl, rfl⟩, ⟨lwm_4 (j := 203) rfl, rfl⟩, ⟨lwm_0 (j := 42) rfl, rfl⟩, ⟨by decide +kernel, by decide +kernel, by decide +kernel⟩, by decide +kernel, rfl, by decide +kernel⟩
theorem zm_ok_157 : zmP 157 := ⟨⟨lwm_4 (j := 196) rfl, rfl⟩, ⟨lwm_1 (j := 11) rfl, rfl⟩, ⟨lwm_4 (j := 195) rfl, rfl⟩, ⟨lwm_0 (j := 40) rfl, rfl⟩, ⟨by decide +kernel, by decide +kernel, by decide +kernel⟩, by decide +kernel, rfl, by decide +kernel⟩
theorem zm_ok_158 : zmP 158 := ⟨⟨lwm_4 (j := 216) rfl, rfl⟩, ⟨lwm_1 (j := 11) rfl, rfl⟩, ⟨lwm_4 (j := 215) rfl, rfl⟩, ⟨lwm_0 (j := 45) rfl, rfl⟩, ⟨by decide +kernel, by decide +kernel, by decide +kernel⟩, by decide +kernel, rfl, by decide +kernel⟩
theorem zm_ok_159 : zmP 159 := ⟨⟨lwm_4 (j := 224) rfl, rfl⟩, ⟨lwm_1 (j := 11) rfl, rfl⟩, ⟨lwm_4 (j := 223) rfl, rfl⟩, ⟨lwm_0 (j := 47) rfl, rfl⟩, ⟨by decide +kernel, by decide +kernel, by decide +kernel⟩, by decide +kernel, rfl, by decide +kernel⟩
theorem zm_ok_160 : zmP 160 := ⟨⟨lwm_4 (j := 228) rfl, rfl⟩, ⟨lwm_1 (j := 11) rfl, rfl⟩, ⟨lwm_4 (j := 227) rfl, rfl⟩, ⟨lwm_0 (j := 48) rfl, rfl⟩, ⟨by decide +kernel, by decide +kernel, by decide +kernel⟩, by decide +kernel, rfl, by decide +kernel⟩
theorem zm_ok_161 : zmP 161 := ⟨⟨lwm_4 (j := 192) rfl, rfl⟩, ⟨lwm_1 (j := 11) rfl, rfl⟩, ⟨lwm_4 (j := 190) rfl, rfl⟩, ⟨lwm_4 (j := 191) rfl, rfl⟩, ⟨by decide +kernel, by decide +kernel, by decide +kernel⟩, by decide +kernel, rfl, by decide +kernel⟩
theorem zm_ok_162 : zmP 162 := ⟨⟨lwm_4 (j := 232) rfl, rfl⟩, ⟨lwm_1 (j := 11) rfl, rfl⟩, ⟨lwm_4 (j := 230) rfl, rfl⟩, ⟨lwm_4 (j := 231) rfl, rfl⟩, ⟨by decide +kernel, by decide +kernel, by decide +kernel⟩, by decide +kernel, rfl, by decide +kernel⟩
theorem zm_ok_163 : zmP 163 := ⟨⟨lwm_4 (j := 236) rfl, rfl⟩, ⟨lwm_1 (j := 11) rfl, rfl⟩, ⟨lwm_4 (j := 234) rfl, rfl⟩, ⟨lwm_4 (j := 235) rfl, rfl⟩, ⟨by decide +kernel, by decide +kernel, by decide +kernel⟩, by decide +kernel, rfl, by decide +kernel⟩
theorem zm_ok_164 : zmP 164 := ⟨⟨lwm_5 (j := 4) rfl, rfl⟩, ⟨lwm_1 (j := 11) rfl, rfl⟩, ⟨lwm_5 (j := 2) rfl, rfl⟩, ⟨lwm_5 (j := 3) rfl, rfl⟩, ⟨by decide +kernel, by decide +kernel, by decide +kernel⟩, by decide +kernel, rfl, by decide +kernel⟩
theorem zm_ok_165 : zmP 165 := ⟨⟨lwm_5 (j := 8) rfl, rfl⟩, ⟨lwm_1 (j := 11) rfl, rfl⟩, ⟨lwm_5 (j := 6) rfl, rfl⟩, ⟨lwm_5 (j := 7) rfl, rfl⟩, ⟨by decide +kernel, by decide +kernel, by decide +kernel⟩, by decide +kernel, rfl, by decide +kernel⟩
theorem zm_ok_166 : zmP 166 := ⟨⟨lwm_5 (j := 12) rfl, rfl⟩, ⟨lwm_1 (j := 11) rfl, rfl⟩, ⟨lwm_5 (j := 10) rfl, rfl⟩, ⟨lwm_5 (j := 11) rfl, rfl⟩, ⟨by decide +kernel, by decide +kernel, by decide +kernel⟩, by decide +kernel, rfl, by decide +kernel⟩
theorem zm_ok_167 : zmP 167 := ⟨⟨lwm_5 (j := 16) rfl, rfl⟩, ⟨lwm_1 (j := 11) rfl, rfl⟩, ⟨lwm_5 (j := 14) rfl, rfl⟩, ⟨lwm_5 (j := 15) rfl, rfl⟩, ⟨by decide +kernel, by decide +kernel, by decide +kernel⟩, by decide +kernel, rfl, by decide +kernel⟩
theorem zm_ok_168 : zmP 168 := ⟨⟨lwm_5 (j := 20) rfl, rfl⟩, ⟨lwm_1 (j := 11) rfl, rfl⟩, ⟨lwm_5 (j := 18) rfl, rfl⟩, ⟨lwm_5 (j := 19) rfl, rfl⟩, ⟨by decide +kernel, by decide +kernel, by decide +kernel⟩, by decide +kernel, rfl, by decide +kernel⟩
theorem zm_ok_169 : zmP 169 := ⟨⟨lwm_5 (j := 25) rfl, rfl⟩, ⟨lwm_1 (j := 11) rfl, rfl⟩, ⟨lwm_5 (j := 23) rfl, rfl⟩, ⟨lwm_5 (j := 24) rfl, rfl⟩, ⟨by decide +kernel, by decide +kernel, by decide +kernel⟩, by decide +kernel, rfl, by decide +kernel⟩
theorem zm_ok_170 : zmP 170 := ⟨⟨lwm_5 (j := 29) rfl, rfl⟩, ⟨lwm_1 (j := 11) rfl, rfl⟩, ⟨lwm_5 (j := 27) rfl, rfl⟩, ⟨lwm_5 (j := 28) rfl, rfl⟩, ⟨by decide +kernel, by decide +kernel, by decide +kernel⟩, by decide +kernel, rfl, by decide +kernel⟩
theorem zm_ok_171 : zmP 171 := ⟨⟨lwm_5 (j := 33) rfl, rfl⟩, ⟨lwm_1 (j := 11) rfl, rfl⟩, ⟨lwm_5 (j := 31) rfl, rfl⟩, ⟨lwm_5 (j := 32) rfl, rfl⟩, ⟨by decide +kernel, by decide +kernel, by decide +kernel⟩, by decide +kernel, rfl, by decide +kernel⟩
theorem zm_ok_172 : zmP 172 := ⟨⟨lwm_5 (j := 37) rfl, rfl⟩, ⟨lwm_1 (j := 11) rfl, rfl⟩, ⟨lwm_5 (j := 35) rfl, rfl⟩, ⟨lwm_5 (j := 36) rfl, rfl⟩, ⟨by decide +kernel, by decide +kernel, by decide +kernel⟩, by decide +kernel, rfl, by decide +kernel⟩
theorem zm_ok_173 : zmP 173 := ⟨⟨lwm_5 (j := 41) rfl, rfl⟩, ⟨lwm_1 (j := 11) rfl, rfl⟩, ⟨lwm_5 (j := 39) rfl, rfl⟩, ⟨lwm_5 (j := 40) rfl, rfl⟩, ⟨by decide +kernel, by decide +kernel, by decide +kernel⟩, by decide +kernel, rfl, by decide +kernel⟩
theorem zm_ok_to_20 : ∀ k, k < 20 → zmP k := lt_s (lt_s (lt_s (lt_s (lt_s (lt_s (lt_s (lt_s (lt_s (lt_s (lt_s (lt_s (lt_s (lt_s (lt_s (lt_s (lt_s (lt_s (lt_s (lt_s (lt_0) zm_ok_0) zm_ok_1) zm_ok_2) zm_ok_3) zm_ok_4) zm_ok_5) zm_ok_6) zm_ok_7) zm_ok_8) zm_ok_9) zm_ok_10) zm_ok_11) zm_ok_12) zm_ok_13) zm_ok_14) zm_ok_15) zm_ok_16) zm_ok_17) zm_ok_18) zm_ok_19
theorem zm_ok_to_40 : ∀ k, k < 40 → zmP k := lt_s (lt_s (lt_s (lt_s (lt_s (lt_s (lt_s (lt_s (lt_s (lt_s (lt_s (lt_s (lt_s (lt_s (lt_s (lt_s (lt_s (lt_s (lt_s (lt_s (zm_ok_to_20) zm_ok_20) zm_ok_21) zm_ok_22) zm_ok_23) zm_ok_24) zm_ok_25) zm_ok_26) zm_ok_27) zm_ok_28) zm_ok_29) zm_ok_30) zm_ok_31) zm_ok_32) zm_ok_33) zm_ok_34) zm_ok_35) zm_ok_36) zm_ok_37) zm_ok_38) zm_ok_39
theorem zm_ok_to_60 : ∀ k, k < 60 → zmP k := lt_s (lt_s (lt_s (lt_s (lt_s (lt_s (lt_s (lt_s (lt_s (lt_s (lt_s (lt_s (lt_s (lt_s (lt_s (lt_s (lt_s (lt_s (lt_s (lt_s (zm_ok_to_40) zm_ok_40) zm_ok_41) zm_ok_42) zm_ok_43) zm_ok_44) zm_ok_45) zm_ok_46) zm_ok_47) zm_ok_48) zm_ok_49) zm_ok_50) zm_ok_51) zm_ok_52) zm_ok_53) zm_ok_54) zm_ok_55) zm_ok_56) zm_ok_57) zm_ok_58) zm_ok_59
theorem zm_ok_to_80 : ∀ k, k < 80 → zmP k := lt_s (lt_s (lt_s (lt_s (lt_s (lt_s (lt_s (lt_s (lt_s (lt_s (lt_s (lt_s (lt_s (lt_s (lt_s (lt_s (lt_s (lt_s (lt_s (lt_s (zm_ok_to_60) zm_ok_60) zm_ok_61) zm_ok_62) zm_ok_63) zm_ok_64) zm_ok_65) zm_ok_66) zm_ok_67) zm_ok_68) zm_ok_69) zm_ok_70) zm_ok_71) zm_ok_72) zm_ok_73) zm_ok_74) zm_ok_75) zm_ok_76) zm_ok_77) zm_ok_78) zm_ok_79
theorem zm_ok_to_100 : ∀ k, k < 100 → zmP k := lt_s (lt_s (lt_s (lt_s (lt_s (lt_s (lt_s (lt_s (lt_s (lt_s (lt_s (lt_s (lt_s (lt_s (lt_s (lt_s (lt_s (lt_s (lt_s (lt_s (zm_ok_to_80) zm_ok_80) zm_ok_81) zm_ok_82) zm_ok_83) zm_ok_84) zm_ok_85) zm_ok_86) zm_ok_87) zm_ok_88) zm_ok_89) zm_ok_90) zm_ok_91) zm_ok_92) zm_ok_93) zm_ok_94) zm_ok_95) zm_ok_96) zm_ok_97) zm_ok_98) zm_ok_99
theorem zm_ok_to_120 : ∀ k, k < 120 → zmP k := lt_s (lt_s (lt_s (lt_s (lt_s (lt_s (lt_s (lt_s (lt_s (lt_s (lt_s (lt_s (lt_s (lt_s (lt_s (lt_s (lt_s (lt_s (lt_s (lt_s (zm_ok_to_100) zm_ok_100) zm_ok_101) zm_ok_102) zm_ok_103) zm_ok_104) zm_ok_105) zm_ok_106) zm_ok_107) zm_ok_108) zm_ok_109) zm_ok_110) zm_ok_111) zm_ok_112) zm_ok_113) zm_ok_114) zm_ok_115) zm_ok_116) zm_ok_117) zm_ok_118) zm_ok_119
theorem zm_ok_to_140 : ∀ k, k < 140 → zmP k := lt_s (lt_s (lt_s (lt_s (lt_s (lt_s (lt_s (lt_s (lt_s (lt_s (lt_s (lt_s (lt_s (lt_s (lt_s (lt_s (lt_s (lt_s (lt_s (lt_s (zm_ok_to_120) zm_ok_120) zm_ok_121) zm_ok_122) zm_ok_123) zm_ok_124) zm_ok_125) zm_ok_126) zm_ok_127) zm_ok_128) zm_ok_129) zm_ok_130) zm_ok_131) zm_ok_132) zm_ok_133) zm_ok_134) zm_ok_135) zm_ok_136) zm_ok_137) zm_ok_138) zm_ok_139
theorem zm_ok_to_160 : ∀ k, k < 160 → zmP k := lt_s (lt_s (lt_s (lt_s (lt_s (lt_s (lt_s (lt_s (lt_s (lt_s (lt_s (lt_s (lt_s (lt_s (lt_s (lt_s (lt_s (lt_s (lt_s (lt_s (zm_ok_to_140) zm_ok_140) zm_ok_141) zm_ok_142) zm_ok_143) zm_ok_144) zm_ok_145) zm_ok_146) zm_ok_147) zm_ok_148) zm_ok_149) zm_ok_150) zm_ok_151) zm_ok_152) zm_ok_153) zm_ok_154) zm_ok_155) zm_ok_156) zm_ok_157) zm_ok_158) zm_ok_159
theorem zm_ok_to_174 : ∀ k, k < 174 → zmP k := lt_s (lt_s (lt_s (lt_s (lt_s (lt_s (lt_s (lt_s (lt_s (lt_s (lt_s (lt_s (lt_s (lt_s (zm_ok_to_160) zm_ok_160) zm_ok_161) zm_ok_162) zm_ok_163) zm_ok_164) zm_ok_165) zm_ok_166) zm_ok_167) zm_ok_168) zm_ok_169) zm_ok_170) zm_ok_171) zm_ok_172) zm_ok_173
theorem zm_ok : ∀ k, k < 174 → zmP k := zm_ok_to_174
theorem zlaw_y : zcn (zow 174) = (zy 174).cls := rfl
theorem zd_0 : ∀ q ∈ zc_0, decode cX0_init q.1 = .ok (q.2.1, q.2.2) := by decide +kernel
theorem zd_1 : ∀ q ∈ zc_1, decode cX0_has q.1 = .ok (q.2.1, q.2.2) := by decide +kernel
theorem zd_2 : ∀ q ∈ zc_2, decode cX0_codeOf q.1 = .ok (q.2.1, q.2.2) := by decide +kernel
theorem zd_3 : ∀ q ∈ zc_3, decode cX0_wordAt q.1 = .ok (q.2.1, q.2.2) := by decide +kernel
theorem zd_4 : ∀ q ∈ zc_4, decode cX0_wordsOf q.1 = .ok (q.2.1, q.2.2) := by decide +kernel
theorem zd_5 : ∀ q ∈ zc_5, decode cX0_lettersOf q.1 = .ok (q.2.1, q.2.2) := by decide +kernel
theorem zd_6 : ∀ q ∈ zc_6, decode cX0_signAt q.1 = .ok (q.2.1, q.2.2) := by decide +kernel
theorem zd_7 : ∀ q ∈ zc_7, decode cX0_means q.1 = .ok (q.2.1, q.2.2) := by decide +kernel
theorem zd_8 : ∀ q ∈ zc_8, decode cX0_find q.1 = .ok (q.2.1, q.2.2) := by decide +kernel
theorem zd_9 : ∀ q ∈ zc_9, decode cX0_leastFromOthers q.1 = .ok (q.2.1, q.2.2) := by decide +kernel
theorem zd_10 : ∀ q ∈ zc_10, decode cX0_leastDistance q.1 = .ok (q.2.1, q.2.2) := by decide +kernel
theorem zd_11 : ∀ q ∈ zc_11, decode cX0_append q.1 = .ok (q.2.1, q.2.2) := by decide +kernel
theorem zd_12 : ∀ q ∈ zc_12, decode cX0_remove q.1 = .ok (q.2.1, q.2.2) := by decide +kernel
theorem zd_13 : ∀ q ∈ zc_13, decode cX0_copyFrom q.1 = .ok (q.2.1, q.2.2) := by decide +kernel
theorem zd_14 : ∀ q ∈ zc_14, decode cX1_init q.1 = .ok (q.2.1, q.2.2) := by decide +kernel
theorem zd_15 : ∀ q ∈ zc_15, decode cX1_lookAt q.1 = .ok (q.2.1, q.2.2) := by decide +kernel
theorem zd_16 : ∀ q ∈ zc_16, decode cX1_markNear q.1 = .ok (q.2.1, q.2.2) := by decide +kernel
theorem zd_17 : ∀ q ∈ zc_17, decode cX1_lowestFrom q.1 = .ok (q.2.1, q.2.2) := by decide +kernel
theorem zd_18 : ∀ q ∈ zc_18, decode cX2_init q.1 = .ok (q.2.1, q.2.2) := by decide +kernel
theorem zd_19 : ∀ q ∈ zc_19, decode cX2_keep q.1 = .ok (q.2.1, q.2.2) := by decide +kernel
theorem zd_20 : ∀ q ∈ zc_20, decode cX2_takeBack q.1 = .ok (q.2.1, q.2.2) := by decide +kernel
theorem zd_21 : ∀ q ∈ zc_21, decode cX3_init q.1 = .ok (q.2.1, q.2.2) := by decide +kernel
theorem zd_22 : ∀ q ∈ zc_22, decode cX3_append q.1 = .ok (q.2.1, q.2.2) := by decide +kernel
theorem zd_23 : ∀ q ∈ zc_23, decode cX3_firstFault q.1 = .ok (q.2.1, q.2.2) := by decide +kernel
theorem zd_24 : ∀ q ∈ zc_24, decode cX3_readInto q.1 = .ok (q.2.1, q.2.2) := by decide +kernel
theorem zd_25 : ∀ q ∈ zc_25, decode cX4_init q.1 = .ok (q.2.1, q.2.2) := by decide +kernel
theorem zd_26 : ∀ q ∈ zc_26, decode cX4_receive q.1 = .ok (q.2.1, q.2.2) := by decide +kernel
theorem zd_27 : ∀ q ∈ zc_27, decode cX4_isCodeWord q.1 = .ok (q.2.1, q.2.2) := by decide +kernel
theorem zd_28 : ∀ q ∈ zc_28, decode cX4_receiveCode q.1 = .ok (q.2.1, q.2.2) := by decide +kernel
theorem zd_29 : ∀ q ∈ zc_29, decode cX4_unlikeLetters q.1 = .ok (q.2.1, q.2.2) := by decide +kernel
theorem zd_30 : ∀ q ∈ zc_30, decode cX4_lastUnlike q.1 = .ok (q.2.1, q.2.2) := by decide +kernel
theorem zd_31 : ∀ q ∈ zc_31, decode cX4_receivePlain q.1 = .ok (q.2.1, q.2.2) := by decide +kernel
theorem zd_32 : ∀ q ∈ zc_32, decode cX5_init q.1 = .ok (q.2.1, q.2.2) := by decide +kernel
theorem zd_33 : ∀ q ∈ zc_33, decode cX5_plan q.1 = .ok (q.2.1, q.2.2) := by decide +kernel
theorem zd_34 : ∀ q ∈ zc_34, decode cX5_isNoWorse q.1 = .ok (q.2.1, q.2.2) := by decide +kernel
theorem zd_35 : ∀ q ∈ zc_35, decode cX5_choose q.1 = .ok (q.2.1, q.2.2) := by decide +kernel
theorem zd_36 : ∀ q ∈ zc_36, decode cX6_init q.1 = .ok (q.2.1, q.2.2) := by decide +kernel
theorem zd_37 : ∀ q ∈ zc_37, decode cX6_codeCost q.1 = .ok (q.2.1, q.2.2) := by decide +kernel
theorem zd_38 : ∀ q ∈ zc_38, decode cX6_apart q.1 = .ok (q.2.1, q.2.2) := by decide +kernel
theorem zd_39 : ∀ q ∈ zc_39, decode cX6_plainCost q.1 = .ok (q.2.1, q.2.2) := by decide +kernel
theorem zd_40 : ∀ q ∈ zc_40, decode cX6_plainCostOfPhrase q.1 = .ok (q.2.1, q.2.2) := by decide +kernel
theorem zd_41 : ∀ q ∈ zc_41, decode cX6_plainCostOfMessage q.1 = .ok (q.2.1, q.2.2) := by decide +kernel
theorem zd_42 : ∀ q ∈ zc_42, decode cX6_timesSent q.1 = .ok (q.2.1, q.2.2) := by decide +kernel
theorem zd_43 : ∀ q ∈ zc_43, decode cX6_copyFrom q.1 = .ok (q.2.1, q.2.2) := by decide +kernel
theorem zd_44 : ∀ q ∈ zc_44, decode cX7_init q.1 = .ok (q.2.1, q.2.2) := by decide +kernel
theorem zd_45 : ∀ q ∈ zc_45, decode cX7_has q.1 = .ok (q.2.1, q.2.2) := by decide +kernel
theorem zd_46 : ∀ q ∈ zc_46, decode cX7_hasPlace q.1 = .ok (q.2.1, q.2.2) := by decide +kernel
theorem zd_47 : ∀ q ∈ zc_47, decode cX7_receivedAt q.1 = .ok (q.2.1, q.2.2) := by decide +kernel
theorem zd_48 : ∀ q ∈ zc_48, decode cX7_costInAll q.1 = .ok (q.2.1, q.2.2) := by decide +kernel
theorem zd_49 : ∀ q ∈ zc_49, decode cX7_garbledLetters q.1 = .ok (q.2.1, q.2.2) := by decide +kernel
theorem zd_50 : ∀ q ∈ zc_50, decode cX7_write q.1 = .ok (q.2.1, q.2.2) := by decide +kernel
theorem zd_51 : ∀ q ∈ zc_51, decode cX7_writePlain q.1 = .ok (q.2.1, q.2.2) := by decide +kernel
theorem zd_52 : ∀ q ∈ zc_52, decode cX7_writeCode q.1 = .ok (q.2.1, q.2.2) := by decide +kernel
theorem zd_53 : ∀ q ∈ zc_53, decode cX7_writeLetter q.1 = .ok (q.2.1, q.2.2) := by decide +kernel
theorem zd_54 : ∀ q ∈ zc_54, decode cX7_copyFrom q.1 = .ok (q.2.1, q.2.2) := by decide +kernel
theorem zd_55 : ∀ q ∈ zc_55, decode cX8_init q.1 = .ok (q.2.1, q.2.2) := by decide +kernel
theorem zd_56 : ∀ q ∈ zc_56, decode cX8_wordAt q.1 = .ok (q.2.1, q.2.2) := by decide +kernel
theorem zd_57 : ∀ q ∈ zc_57, decode cX8_append q.1 = .ok (q.2.1, q.2.2) := by decide +kernel
theorem zd_58 : ∀ q ∈ zc_58, decode cX8_copyFrom q.1 = .ok (q.2.1, q.2.2) := by decide +kernel
theorem zd_59 : ∀ q ∈ zc_59, decode cX8_hasLike q.1 = .ok (q.2.1, q.2.2) := by decide +kernel
theorem zd_60 : ∀ q ∈ zc_60, decode cX9_init q.1 = .ok (q.2.1, q.2.2) := by decide +kernel
theorem zd_61 : ∀ q ∈ zc_61, decode cX9_set q.1 = .ok (q.2.1, q.2.2) := by decide +kernel
theorem zd_62 : ∀ q ∈ zc_62, decode cX9_enter q.1 = .ok (q.2.1, q.2.2) := by decide +kernel
theorem zd_63 : ∀ q ∈ zc_63, decode cX9_recode q.1 = .ok (q.2.1, q.2.2) := by decide +kernel
theorem zd_64 : ∀ q ∈ zc_64, decode cX9_drop q.1 = .ok (q.2.1, q.2.2) := by decide +kernel
theorem zd_65 : ∀ q ∈ zc_65, decode cX9_send q.1 = .ok (q.2.1, q.2.2) := by decide +kernel
theorem zd_66 : ∀ q ∈ zc_66, decode cX9_sendAgain q.1 = .ok (q.2.1, q.2.2) := by decide +kernel
theorem zd_67 : ∀ q ∈ zc_67, decode cX9_garble q.1 = .ok (q.2.1, q.2.2) := by decide +kernel
theorem zd_68 : ∀ q ∈ zc_68, decode cX9_entry q.1 = .ok (q.2.1, q.2.2) := by decide +kernel
theorem zd_69 : ∀ q ∈ zc_69, decode cX9_phraseSign q.1 = .ok (q.2.1, q.2.2) := by decide +kernel
theorem zd_70 : ∀ q ∈ zc_70, decode cX9_count q.1 = .ok (q.2.1, q.2.2) := by decide +kernel
theorem zd_71 : ∀ q ∈ zc_71, decode cX9_letter q.1 = .ok (q.2.1, q.2.2) := by decide +kernel
theorem zd_72 : ∀ q ∈ zc_72, decode cX9_received q.1 = .ok (q.2.1, q.2.2) := by decide +kernel
theorem zd_73 : ∀ q ∈ zc_73, decode cX9_receivedSo q.1 = .ok (q.2.1, q.2.2) := by decide +kernel
theorem zd_74 : ∀ q ∈ zc_74, decode cX9_costOf q.1 = .ok (q.2.1, q.2.2) := by decide +kernel
theorem zd_75 : ∀ q ∈ zc_75, decode cX9_saves q.1 = .ok (q.2.1, q.2.2) := by decide +kernel
theorem zd_76 : ∀ q ∈ zc_76, decode cX9_bestPhrase q.1 = .ok (q.2.1, q.2.2) := by decide +kernel
theorem zd_77 : ∀ q ∈ zc_77, decode cX9_left q.1 = .ok (q.2.1, q.2.2) := by decide +kernel
theorem zd_78 : ∀ q ∈ zc_78, decode cX9_distance q.1 = .ok (q.2.1, q.2.2) := by decide +kernel
theorem zd_79 : ∀ q ∈ zc_79, decode cX9_put q.1 = .ok (q.2.1, q.2.2) := by decide +kernel
theorem zd_80 : ∀ q ∈ zc_80, decode cX9_wipe q.1 = .ok (q.2.1, q.2.2) := by decide +kernel
theorem zd_81 : ∀ q ∈ zc_81, decode cX9_fault q.1 = .ok (q.2.1, q.2.2) := by decide +kernel
theorem zd_82 : ∀ q ∈ zc_82, decode cX9_undo q.1 = .ok (q.2.1, q.2.2) := by decide +kernel
theorem zd_83 : ∀ q ∈ zc_83, decode cX9_save q.1 = .ok (q.2.1, q.2.2) := by decide +kernel
theorem zd_84 : ∀ q ∈ zc_84, decode cX9_restore q.1 = .ok (q.2.1, q.2.2) := by decide +kernel
theorem zd_85 : ∀ q ∈ zc_85, decode cX9_readPad q.1 = .ok (q.2.1, q.2.2) := by decide +kernel
theorem zd_86 : ∀ q ∈ zc_86, decode cX9_sendMessage q.1 = .ok (q.2.1, q.2.2) := by decide +kernel
theorem zd_87 : ∀ q ∈ zc_87, decode cX9_signsIn q.1 = .ok (q.2.1, q.2.2) := by decide +kernel
theorem zd_88 : ∀ q ∈ zc_88, decode cX9_isCode q.1 = .ok (q.2.1, q.2.2) := by decide +kernel
theorem zd_89 : ∀ q ∈ zc_89, decode cX9_codeLetterOf q.1 = .ok (q.2.1, q.2.2) := by decide +kernel
theorem zd_90 : ∀ q ∈ zc_90, decode cX9_unlikePlaces q.1 = .ok (q.2.1, q.2.2) := by decide +kernel
theorem zd_91 : ∀ q ∈ zc_91, decode cX9_unlikeInHalf q.1 = .ok (q.2.1, q.2.2) := by decide +kernel
theorem zd_92 : ∀ q ∈ zc_92, decode cX9_longerWord q.1 = .ok (q.2.1, q.2.2) := by decide +kernel
theorem zd_93 : ∀ q ∈ zc_93, decode cX9_lengthOf q.1 = .ok (q.2.1, q.2.2) := by decide +kernel
theorem zd_94 : ∀ q ∈ zc_94, decode cX9_plainLetterOf q.1 = .ok (q.2.1, q.2.2) := by decide +kernel
theorem zd_95 : ∀ q ∈ zc_95, decode cX9_checkLetterOf q.1 = .ok (q.2.1, q.2.2) := by decide +kernel
theorem zd_96 : ∀ q ∈ zc_96, decode cX9_at q.1 = .ok (q.2.1, q.2.2) := by decide +kernel
theorem zd_97 : ∀ q ∈ zc_97, decode cX9_at_ q.1 = .ok (q.2.1, q.2.2) := by decide +kernel
theorem zd_98 : ∀ q ∈ zc_98, decode cX9_lay q.1 = .ok (q.2.1, q.2.2) := by decide +kernel
theorem zd_99 : ∀ q ∈ zc_99, decode cX9_lay_ q.1 = .ok (q.2.1, q.2.2) := by decide +kernel
theorem zd_100 : ∀ q ∈ zc_100, decode cX9_copyRow q.1 = .ok (q.2.1, q.2.2) := by decide +kernel
theorem zd_101 : ∀ q ∈ zc_101, decode cX9_copyRow_ q.1 = .ok (q.2.1, q.2.2) := by decide +kernel
theorem zd_102 : ∀ q ∈ zc_102, decode cX10_init q.1 = .ok (q.2.1, q.2.2) := by decide +kernel
theorem zd_103 : ∀ q ∈ zc_103, decode cX10_copy q.1 = .ok (q.2.1, q.2.2) := by decide +kernel
theorem zd_104 : ∀ q ∈ zc_104, decode cX10_within q.1 = .ok (q.2.1, q.2.2) := by decide +kernel
theorem zd_105 : ∀ q ∈ zc_105, decode cX10_record q.1 = .ok (q.2.1, q.2.2) := by decide +kernel
theorem zd_106 : ∀ q ∈ zc_106, decode cX10_isPlain q.1 = .ok (q.2.1, q.2.2) := by decide +kernel
theorem zd_107 : ∀ q ∈ zc_107, decode cX10_findFault q.1 = .ok (q.2.1, q.2.2) := by decide +kernel
theorem zd_108 : ∀ q ∈ zc_108, decode cX10_findWords q.1 = .ok (q.2.1, q.2.2) := by decide +kernel
theorem zd_109 : ∀ q ∈ zc_109, decode cX10_lookAtPad q.1 = .ok (q.2.1, q.2.2) := by decide +kernel
theorem zd_110 : ∀ q ∈ zc_110, decode cX10_lookAtMessage q.1 = .ok (q.2.1, q.2.2) := by decide +kernel
theorem zd_111 : ∀ q ∈ zc_111, decode cX10_digit q.1 = .ok (q.2.1, q.2.2) := by decide +kernel
theorem zd_112 : ∀ q ∈ zc_112, decode cX10_apart q.1 = .ok (q.2.1, q.2.2) := by decide +kernel
theorem zd_113 : ∀ q ∈ zc_113, decode cX10_isEntry q.1 = .ok (q.2.1, q.2.2) := by decide +kernel
theorem zd_114 : ∀ q ∈ zc_114, decode cX10_entryPart q.1 = .ok (q.2.1, q.2.2) := by decide +kernel
theorem zd_115 : ∀ q ∈ zc_115, decode cX10_takeCodes q.1 = .ok (q.2.1, q.2.2) := by decide +kernel
theorem zd_116 : ∀ q ∈ zc_116, decode cX10_isFar q.1 = .ok (q.2.1, q.2.2) := by decide +kernel
theorem zd_117 : ∀ q ∈ zc_117, decode cX10_freeCode q.1 = .ok (q.2.1, q.2.2) := by decide +kernel
theorem zd_118 : ∀ q ∈ zc_118, decode cX10_nearest q.1 = .ok (q.2.1, q.2.2) := by decide +kernel
theorem zd_119 : ∀ q ∈ zc_119, decode cX10_plainCost q.1 = .ok (q.2.1, q.2.2) := by decide +kernel
theorem zd_120 : ∀ q ∈ zc_120, decode cX10_signsOf q.1 = .ok (q.2.1, q.2.2) := by decide +kernel
theorem zd_121 : ∀ q ∈ zc_121, decode cX10_isPhraseAt q.1 = .ok (q.2.1, q.2.2) := by decide +kernel
theorem zd_122 : ∀ q ∈ zc_122, decode cX10_areAlike q.1 = .ok (q.2.1, q.2.2) := by decide +kernel
theorem zd_123 : ∀ q ∈ zc_123, decode cX10_entryOf q.1 = .ok (q.2.1, q.2.2) := by decide +kernel
theorem zd_124 : ∀ q ∈ zc_124, decode cX10_findWay q.1 = .ok (q.2.1, q.2.2) := by decide +kernel
theorem zd_125 : ∀ q ∈ zc_125, decode cX10_wayCost q.1 = .ok (q.2.1, q.2.2) := by decide +kernel
theorem zd_126 : ∀ q ∈ zc_126, decode cX10_allPlain q.1 = .ok (q.2.1, q.2.2) := by decide +kernel
theorem zd_127 : ∀ q ∈ zc_127, decode cX10_wordPart q.1 = .ok (q.2.1, q.2.2) := by decide +kernel
theorem zd_128 : ∀ q ∈ zc_128, decode cX10_setWord q.1 = .ok (q.2.1, q.2.2) := by decide +kernel
theorem zd_129 : ∀ q ∈ zc_129, decode cX10_setLetter q.1 = .ok (q.2.1, q.2.2) := by decide +kernel
theorem zd_130 : ∀ q ∈ zc_130, decode cX10_sendPlain q.1 = .ok (q.2.1, q.2.2) := by decide +kernel
theorem zd_131 : ∀ q ∈ zc_131, decode cX10_sendCode q.1 = .ok (q.2.1, q.2.2) := by decide +kernel
theorem zd_132 : ∀ q ∈ zc_132, decode cX10_sends q.1 = .ok (q.2.1, q.2.2) := by decide +kernel
theorem zd_133 : ∀ q ∈ zc_133, decode cX10_isValue q.1 = .ok (q.2.1, q.2.2) := by decide +kernel
theorem zd_134 : ∀ q ∈ zc_134, decode cX10_set q.1 = .ok (q.2.1, q.2.2) := by decide +kernel
theorem zd_135 : ∀ q ∈ zc_135, decode cX10_enter q.1 = .ok (q.2.1, q.2.2) := by decide +kernel
theorem zd_136 : ∀ q ∈ zc_136, decode cX10_canHave q.1 = .ok (q.2.1, q.2.2) := by decide +kernel
theorem zd_137 : ∀ q ∈ zc_137, decode cX10_recode q.1 = .ok (q.2.1, q.2.2) := by decide +kernel
theorem zd_138 : ∀ q ∈ zc_138, decode cX10_drop q.1 = .ok (q.2.1, q.2.2) := by decide +kernel
theorem zd_139 : ∀ q ∈ zc_139, decode cX10_send q.1 = .ok (q.2.1, q.2.2) := by decide +kernel
theorem zd_140 : ∀ q ∈ zc_140, decode cX10_sendAgain q.1 = .ok (q.2.1, q.2.2) := by decide +kernel
theorem zd_141 : ∀ q ∈ zc_141, decode cX10_isSent q.1 = .ok (q.2.1, q.2.2) := by decide +kernel
theorem zd_142 : ∀ q ∈ zc_142, decode cX10_garble q.1 = .ok (q.2.1, q.2.2) := by decide +kernel
theorem zd_143 : ∀ q ∈ zc_143, decode cX10_wordsOf q.1 = .ok (q.2.1, q.2.2) := by decide +kernel
theorem zd_144 : ∀ q ∈ zc_144, decode cX10_plainCostOf q.1 = .ok (q.2.1, q.2.2) := by decide +kernel
theorem zd_145 : ∀ q ∈ zc_145, decode cX10_sentAs q.1 = .ok (q.2.1, q.2.2) := by decide +kernel
theorem zd_146 : ∀ q ∈ zc_146, decode cX10_entry q.1 = .ok (q.2.1, q.2.2) := by decide +kernel
theorem zd_147 : ∀ q ∈ zc_147, decode cX10_phraseSign q.1 = .ok (q.2.1, q.2.2) := by decide +kernel
theorem zd_148 : ∀ q ∈ zc_148, decode cX10_nearestOfAll q.1 = .ok (q.2.1, q.2.2) := by decide +kernel
theorem zd_149 : ∀ q ∈ zc_149, decode cX10_garbled q.1 = .ok (q.2.1, q.2.2) := by decide +kernel
theorem zd_150 : ∀ q ∈ zc_150, decode cX10_count q.1 = .ok (q.2.1, q.2.2) := by decide +kernel
theorem zd_151 : ∀ q ∈ zc_151, decode cX10_letter q.1 = .ok (q.2.1, q.2.2) := by decide +kernel
theorem zd_152 : ∀ q ∈ zc_152, decode cX10_isCodeLike q.1 = .ok (q.2.1, q.2.2) := by decide +kernel
theorem zd_153 : ∀ q ∈ zc_153, decode cX10_unlike q.1 = .ok (q.2.1, q.2.2) := by decide +kernel
theorem zd_154 : ∀ q ∈ zc_154, decode cX10_entriesAt q.1 = .ok (q.2.1, q.2.2) := by decide +kernel
theorem zd_155 : ∀ q ∈ zc_155, decode cX10_entryAt q.1 = .ok (q.2.1, q.2.2) := by decide +kernel
theorem zd_156 : ∀ q ∈ zc_156, decode cX10_isPlainly q.1 = .ok (q.2.1, q.2.2) := by decide +kernel
theorem zd_157 : ∀ q ∈ zc_157, decode cX10_how q.1 = .ok (q.2.1, q.2.2) := by decide +kernel
theorem zd_158 : ∀ q ∈ zc_158, decode cX10_receivedEntry q.1 = .ok (q.2.1, q.2.2) := by decide +kernel
theorem zd_159 : ∀ q ∈ zc_159, decode cX10_mendedPlace q.1 = .ok (q.2.1, q.2.2) := by decide +kernel
theorem zd_160 : ∀ q ∈ zc_160, decode cX10_isAsSent q.1 = .ok (q.2.1, q.2.2) := by decide +kernel
theorem zd_161 : ∀ q ∈ zc_161, decode cX10_received q.1 = .ok (q.2.1, q.2.2) := by decide +kernel
theorem zd_162 : ∀ q ∈ zc_162, decode cX10_receivedSo q.1 = .ok (q.2.1, q.2.2) := by decide +kernel
theorem zd_163 : ∀ q ∈ zc_163, decode cX10_costOf q.1 = .ok (q.2.1, q.2.2) := by decide +kernel
theorem zd_164 : ∀ q ∈ zc_164, decode cX10_saves q.1 = .ok (q.2.1, q.2.2) := by decide +kernel
theorem zd_165 : ∀ q ∈ zc_165, decode cX10_bestPhrase q.1 = .ok (q.2.1, q.2.2) := by decide +kernel
theorem zd_166 : ∀ q ∈ zc_166, decode cX10_left q.1 = .ok (q.2.1, q.2.2) := by decide +kernel
theorem zd_167 : ∀ q ∈ zc_167, decode cX10_distance q.1 = .ok (q.2.1, q.2.2) := by decide +kernel
theorem zd_168 : ∀ q ∈ zc_168, decode cX10_put q.1 = .ok (q.2.1, q.2.2) := by decide +kernel
theorem zd_169 : ∀ q ∈ zc_169, decode cX10_wipe q.1 = .ok (q.2.1, q.2.2) := by decide +kernel
theorem zd_170 : ∀ q ∈ zc_170, decode cX10_fault q.1 = .ok (q.2.1, q.2.2) := by decide +kernel
theorem zd_171 : ∀ q ∈ zc_171, decode cX10_undo q.1 = .ok (q.2.1, q.2.2) := by decide +kernel
theorem zd_172 : ∀ q ∈ zc_172, decode cX10_save q.1 = .ok (q.2.1, q.2.2) := by decide +kernel
theorem zd_173 : ∀ q ∈ zc_173, decode cX10_restore q.1 = .ok (q.2.1, q.2.2) := by decide +kernel
theorem zd_174 : ∀ q ∈ zc_174, decode cL_law q.1 = .ok (q.2.1, q.2.2) := by decide +kernel
theorem zd_ok_to_20 : ∀ k, k < 20 → ∀ q ∈ zcd k, decode (zb k) q.1 = .ok (q.2.1, q.2.2) := lt_s (lt_s (lt_s (lt_s (lt_s (lt_s (lt_s (lt_s (lt_s (lt_s (lt_s (lt_s (lt_s (lt_s (lt_s (lt_s (lt_s (lt_s (lt_s (lt_s (lt_0) zd_0) zd_1) zd_2) zd_3) zd_4) zd_5) zd_6) zd_7) zd_8) zd_9) zd_10) zd_11) zd_12) zd_13) zd_14) zd_15) zd_16) zd_17) zd_18) zd_19
theorem zd_ok_to_40 : ∀ k, k < 40 → ∀ q ∈ zcd k, decode (zb k) q.1 = .ok (q.2.1, q.2.2) := lt_s (lt_s (lt_s (lt_s (lt_s (lt_s (lt_s (lt_s (lt_s (lt_s (lt_s (lt_s (lt_s (lt_s (lt_s (lt_s (lt_s (lt_s (lt_s (lt_s (zd_ok_to_20) zd_20) zd_21) zd_22) zd_23) zd_24) zd_25) zd_26) zd_27) zd_28) zd_29) zd_30) zd_31) zd_32) zd_33) zd_34) zd_35) zd_36) zd_37) zd_38) zd_39
theorem zd_ok_to_60 : ∀ k, k < 60 → ∀ q ∈ zcd k, decode (zb k) q.1 = .ok (q.2.1, q.2.2) := lt_s (lt_s (lt_s (lt_s (lt_s (lt_s (lt_s (lt_s (lt_s (lt_s (lt_s (lt_s (lt_s (lt_s (lt_s (lt_s (lt_s (lt_s (lt_s (lt_s (zd_ok_to_40) zd_40) zd_41) zd_42) zd_43) zd_44) zd_45) zd_46) zd_47) zd_48) zd_49) zd_50) zd_51) zd_52) zd_53) zd_54) zd_55) zd_56) zd_57) zd_58) zd_59
theorem zd_ok_to_80 : ∀ k, k < 80 → ∀ q ∈ zcd k, decode (zb k) q.1 = .ok (q.2.1, q.2.2) := lt_s (lt_s (lt_s (lt_s (lt_s (lt_s (lt_s (lt_s (lt_s (lt_s (lt_s (lt_s (lt_s (lt_s (lt_s (lt_s (lt_s (lt_s (lt_s (lt_s (zd_ok_to_60) zd_60) zd_61) zd_62) zd_63) zd_64) zd_65) zd_66) zd_67) zd_68) zd_69) zd_70) zd_71) zd_72) zd_73) zd_74) zd_75) zd_76) zd_77) zd_78) zd_79
theorem zd_ok_to_100 : ∀ k, k < 100 → ∀ q ∈ zcd k, decode (zb k) q.1 = .ok (q.2.1, q.2.2) := lt_s (lt_s (lt_s (lt_s (lt_s (lt_s (lt_s (lt_s (lt_s (lt_s (lt_s (lt_s (lt_s (lt_s (lt_s (lt_s (lt_s (lt_s (lt_s (lt_s (zd_ok_to_80) zd_80) zd_81) zd_82) zd_83) zd_84) zd_85) zd_86) zd_87) zd_88) zd_89) zd_90) zd_91) zd_92) zd_93) zd_94) zd_95) zd_96) zd_97) zd_98) zd_99
theorem zd_ok_to_120 : ∀ k, k < 120 → ∀ q ∈ zcd k, decode (zb k) q.1 = .ok (q.2.1, q.2.2) := lt_s (lt_s (lt_s (lt_s (lt_s (lt_s (lt_s (lt_s (lt_s (lt_s (lt_s (lt_s (lt_s (lt_s (lt_s (lt_s (lt_s (lt_s (lt_s (lt_s (zd_ok_to_100) zd_100) zd_101) zd_102) zd_103) zd_104) zd_105) zd_106) zd_107) zd_108) zd_109) zd_110) zd_111) zd_112) zd_113) zd_114) zd_115) zd_116) zd_117) zd_118) zd_119
theorem zd_ok_to_140 : ∀ k, k < 140 → ∀ q ∈ zcd k, decode (zb k) q.1 = .ok (q.2.1, q.2.2) := lt_s (lt_s (lt_s (lt_s (lt_s (lt_s (lt_s (lt_s (lt_s (lt_s (lt_s (lt_s (lt_s (lt_s (lt_s (lt_s (lt_s (lt_s (lt_s (lt_s (zd_ok_to_120) zd_120) zd_121) zd_122) zd_123) zd_124) zd_125) zd_126) zd_127) zd_128) zd_129) zd_130) zd_131) zd_132) zd_133) zd_134) zd_135) zd_136) zd_137) zd_138) zd_139
theorem zd_ok_to_160 : ∀ k, k < 160 → ∀ q ∈ zcd k, decode (zb k) q.1 = .ok (q.2.1, q.2.2) := lt_s (lt_s (lt_s (lt_s (lt_s (lt_s (lt_s (lt_s (lt_s (lt_s (lt_s (lt_s (lt_s (lt_s (lt_s (lt_s (lt_s (lt_s (lt_s (lt_s (zd_ok_to_140) zd_140) zd_141) zd_142) zd_143) zd_144) zd_145) zd_146) zd_147) zd_148) zd_149) zd_150) zd_151) zd_152) zd_153) zd_154) zd_155) zd_156) zd_157) zd_158) zd_159
theorem zd_ok_to_175 : ∀ k, k < 175 → ∀ q ∈ zcd k, decode (zb k) q.1 = .ok (q.2.1, q.2.2) := lt_s (lt_s (lt_s (lt_s (lt_s (lt_s (lt_s (lt_s (lt_s (lt_s (lt_s (lt_s (lt_s (lt_s (lt_s (zd_ok_to_160) zd_160) zd_161) zd_162) zd_163) zd_164) zd_165) zd_166) zd_167) zd_168) zd_169) zd_170) zd_171) zd_172) zd_173) zd_174
theorem zd_ok : ∀ k, k < 175 → ∀ q ∈ zcd k, decode (zb k) q.1 = .ok (q.2.1, q.2.2) := zd_ok_to_175
def zrmI (k : Nat) (i : Option Instr) : Bool := match i with
  | some (.invokevirtual j) => decide (j < 174) && decide (zfr j + 1 ≤ zfr k) && decide (8 + (zmx j + 11) + zlo j ≤ zlo k)
  | some (.invokestatic j) => decide (j < 174) && decide (zfr j + 1 ≤ zfr k) && decide (8 + (zmx j + 11) + zlo j ≤ zlo k)
  | some (.invokespecial j) => decide (j < 174) && decide (zfr j + 1 ≤ zfr k) && decide (8 + (zmx j + 11) + zlo j ≤ zlo k)
  | some .pop => decide (1 ≤ zfr k) && decide (20 ≤ zlo k)
  | some (.invokedynamic b) => decide (1 ≤ zfr k) && decide ((if b = 3 then 26 else 21) ≤ zlo k)
  | some .return_ => true
  | some _ => true
  | none => false
def zrm (k : Nat) : Bool := (zcd k).all fun q => zrmI k (zres k q.1 q.2.1)
set_option maxRecDepth 20000 in
theorem zrm_ok : (List.range 175).all zrm = true := by decide +kernel
/-- how long an instruction is -/
def zlen (r : Instr) (len : Nat) : Bool := match r with
  | .bipush _ => len == 2
  | .sipush _ => len == 3
  | .ldc2_w _ => len == 3
  | .iload _ => len == 2
  | .lload _ => len == 2
  | .istore _ => len == 2
  | .lstore _ => len == 2
  | .iinc _ _ => len == 3
  | .ifCond _ _ => len == 3
  | .if_icmp _ _ => len == 3
  | .goto _ => len == 3
  | .ifnonnull _ => len == 3
  | .getfield _ => len == 3
  | .putfield _ => len == 3
  | .getstatic _ => len == 3
  | .new _ => len == 3
  | .newarray _ => len == 2
  | .anewarray _ => len == 3
  | .invokevirtual _ => len == 3
  | .invokestatic _ => len == 3
  | .invokespecial _ => len == 3
  | .tableswitch _ _ _ _ => true
  | _ => len == 1
set_option maxRecDepth 20000 in
theorem zln_ok : (List.range 175).all (fun k => (zcd k).all fun q => zlen q.2.1 q.2.2) = true := by decide +kernel
