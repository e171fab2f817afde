/-- words that stay true while the tables grow warmer -/
def zgood : Cond → Bool
  | .fieldLinkNest _ _ _ _ _ _ => true
  | .methodLinkNest _ _ _ _ => true
  | .arrayOver (.object _) => true
  | w => goodWord w
def zW (w : Cond) : Prop := w ∈ lw_tbl ∧ zgood w = true
def zALL : List Cond := lw_tbl.filter zgood
theorem zW_iff {w : Cond} : w ∈ zALL ↔ zW w := List.mem_filter
theorem lwm_0 {j : Nat} {w : Cond} (h : (k2_sels lw_privs)[j]? = some w) : w ∈ lw_tbl := List.mem_append_left _ (List.mem_of_getElem? h)
theorem lwm_1 {j : Nat} {w : Cond} (h : tables_1_1[j]? = some w) : w ∈ lw_tbl := List.mem_append_right _ (List.mem_append_left _ (List.mem_of_getElem? h))
theorem lwm_2 {j : Nat} {w : Cond} (h : tables_1_2[j]? = some w) : w ∈ lw_tbl := List.mem_append_right _ (List.mem_append_right _ (List.mem_append_left _ (List.mem_of_getElem? h)))
theorem lwm_3 {j : Nat} {w : Cond} (h : tables_1_3[j]? = some w) : w ∈ lw_tbl := List.mem_append_right _ (List.mem_append_right _ (List.mem_append_right _ (List.mem_of_getElem? h)))
theorem zlk_mem {α : Type} {l : List (Nat × Nat × α)} {own idx : Nat} {v : α} (h : zlk l own idx = some v) : (own, idx, v) ∈ l := by
  unfold zlk at h
  rw [Option.map_eq_some_iff] at h
  obtain ⟨⟨a, b, v'⟩, h1, h2⟩ := h
  have h3 := List.find?_some h1
  have h4 := List.mem_of_find?_eq_some h1
  simp only [Bool.and_eq_true, beq_iff_eq] at h3 h2
  obtain ⟨rfl, rfl⟩ := h3
  subst h2
  exact h4
def zcns : List String := [RX0, RX1, RX2, RX3, RX4, RX5, RX6, RX7, RX8, RX9, RL]
def zcn (c : Nat) : String := zcns.getD c ""
def zflP (q : Nat × Nat × Nat × Nat) : Prop := ∃ (C : String) (T : u_T) (N : Nat), vwCl[q.2.2.1]? = some (C, T, N) ∧ q.2.2.2 < N ∧ (zW (.fieldLink (zcn q.1) q.2.1 (T q.2.2.2).1 (T q.2.2.2).2.1 (T q.2.2.2).2.2.1) ∨ ∃ host, zW (.fieldLinkNest (zcn q.1) q.2.1 (T q.2.2.2).1 (T q.2.2.2).2.1 (T q.2.2.2).2.2.1 host) ∧ q.1 ≠ q.2.2.1)
theorem zfl_0 : zflP (0, 9, 0, 0) := ⟨RX0, TX0, 3, rfl, Nat.le_of_ble_eq_true rfl, Or.inl ⟨lwm_1 (j := 33) rfl, rfl⟩⟩
theorem zfl_1 : zflP (0, 15, 0, 1) := ⟨RX0, TX0, 3, rfl, Nat.le_of_ble_eq_true rfl, Or.inl ⟨lwm_1 (j := 35) rfl, rfl⟩⟩
theorem zfl_2 : zflP (0, 19, 0, 2) := ⟨RX0, TX0, 3, rfl, Nat.le_of_ble_eq_true rfl, Or.inl ⟨lwm_1 (j := 36) rfl, rfl⟩⟩
theorem zfl_3 : zflP (1, 9, 1, 0) := ⟨RX1, TX1, 1, rfl, Nat.le_of_ble_eq_true rfl, Or.inl ⟨lwm_1 (j := 194) rfl, rfl⟩⟩
theorem zfl_4 : zflP (1, 15, 0, 2) := ⟨RX0, TX0, 3, rfl, Nat.le_of_ble_eq_true rfl, Or.inr ⟨_, ⟨lwm_1 (j := 37) rfl, rfl⟩, by decide⟩⟩
theorem zfl_5 : zflP (2, 11, 2, 0) := ⟨RX2, TX2, 3, rfl, Nat.le_of_ble_eq_true rfl, Or.inl ⟨lwm_1 (j := 140) rfl, rfl⟩⟩
theorem zfl_6 : zflP (2, 17, 2, 1) := ⟨RX2, TX2, 3, rfl, Nat.le_of_ble_eq_true rfl, Or.inl ⟨lwm_1 (j := 141) rfl, rfl⟩⟩
theorem zfl_7 : zflP (2, 21, 2, 2) := ⟨RX2, TX2, 3, rfl, Nat.le_of_ble_eq_true rfl, Or.inl ⟨lwm_1 (j := 142) rfl, rfl⟩⟩
theorem zfl_8 : zflP (3, 9, 3, 0) := ⟨RX3, TX3, 2, rfl, Nat.le_of_ble_eq_true rfl, Or.inl ⟨lwm_1 (j := 157) rfl, rfl⟩⟩
theorem zfl_9 : zflP (3, 15, 3, 1) := ⟨RX3, TX3, 2, rfl, Nat.le_of_ble_eq_true rfl, Or.inl ⟨lwm_1 (j := 158) rfl, rfl⟩⟩
theorem zfl_10 : zflP (3, 27, 8, 1) := ⟨RX8, TX8, 2, rfl, Nat.le_of_ble_eq_true rfl, Or.inr ⟨_, ⟨lwm_1 (j := 65) rfl, rfl⟩, by decide⟩⟩
theorem zfl_11 : zflP (4, 9, 4, 0) := ⟨RX4, TX4, 4, rfl, Nat.le_of_ble_eq_true rfl, Or.inl ⟨lwm_1 (j := 205) rfl, rfl⟩⟩
theorem zfl_12 : zflP (4, 15, 4, 1) := ⟨RX4, TX4, 4, rfl, Nat.le_of_ble_eq_true rfl, Or.inl ⟨lwm_1 (j := 207) rfl, rfl⟩⟩
theorem zfl_13 : zflP (4, 18, 4, 2) := ⟨RX4, TX4, 4, rfl, Nat.le_of_ble_eq_true rfl, Or.inl ⟨lwm_1 (j := 209) rfl, rfl⟩⟩
theorem zfl_14 : zflP (4, 21, 4, 3) := ⟨RX4, TX4, 4, rfl, Nat.le_of_ble_eq_true rfl, Or.inl ⟨lwm_1 (j := 211) rfl, rfl⟩⟩
theorem zfl_15 : zflP (4, 25, 6, 2) := ⟨RX6, TX6, 3, rfl, Nat.le_of_ble_eq_true rfl, Or.inr ⟨_, ⟨lwm_1 (j := 123) rfl, rfl⟩, by decide⟩⟩
theorem zfl_16 : zflP (4, 49, 7, 5) := ⟨RX7, TX7, 9, rfl, Nat.le_of_ble_eq_true rfl, Or.inr ⟨_, ⟨lwm_1 (j := 89) rfl, rfl⟩, by decide⟩⟩
theorem zfl_17 : zflP (4, 57, 6, 1) := ⟨RX6, TX6, 3, rfl, Nat.le_of_ble_eq_true rfl, Or.inr ⟨_, ⟨lwm_1 (j := 120) rfl, rfl⟩, by decide⟩⟩
theorem zfl_18 : zflP (4, 61, 0, 2) := ⟨RX0, TX0, 3, rfl, Nat.le_of_ble_eq_true rfl, Or.inr ⟨_, ⟨lwm_1 (j := 39) rfl, rfl⟩, by decide⟩⟩
theorem zfl_19 : zflP (4, 77, 7, 1) := ⟨RX7, TX7, 9, rfl, Nat.le_of_ble_eq_true rfl, Or.inr ⟨_, ⟨lwm_1 (j := 78) rfl, rfl⟩, by decide⟩⟩
theorem zfl_20 : zflP (4, 80, 7, 0) := ⟨RX7, TX7, 9, rfl, Nat.le_of_ble_eq_true rfl, Or.inr ⟨_, ⟨lwm_1 (j := 74) rfl, rfl⟩, by decide⟩⟩
theorem zfl_21 : zflP (4, 84, 7, 2) := ⟨RX7, TX7, 9, rfl, Nat.le_of_ble_eq_true rfl, Or.inr ⟨_, ⟨lwm_1 (j := 81) rfl, rfl⟩, by decide⟩⟩
theorem zfl_22 : zflP (5, 9, 5, 0) := ⟨RX5, TX5, 4, rfl, Nat.le_of_ble_eq_true rfl, Or.inl ⟨lwm_1 (j := 173) rfl, rfl⟩⟩
theorem zfl_23 : zflP (5, 15, 5, 1) := ⟨RX5, TX5, 4, rfl, Nat.le_of_ble_eq_true rfl, Or.inl ⟨lwm_1 (j := 174) rfl, rfl⟩⟩
theorem zfl_24 : zflP (5, 18, 5, 2) := ⟨RX5, TX5, 4, rfl, Nat.le_of_ble_eq_true rfl, Or.inl ⟨lwm_1 (j := 175) rfl, rfl⟩⟩
theorem zfl_25 : zflP (5, 21, 5, 3) := ⟨RX5, TX5, 4, rfl, Nat.le_of_ble_eq_true rfl, Or.inl ⟨lwm_1 (j := 177) rfl, rfl⟩⟩
theorem zfl_26 : zflP (5, 24, 8, 1) := ⟨RX8, TX8, 2, rfl, Nat.le_of_ble_eq_true rfl, Or.inr ⟨_, ⟨lwm_1 (j := 63) rfl, rfl⟩, by decide⟩⟩
theorem zfl_27 : zflP (5, 48, 6, 1) := ⟨RX6, TX6, 3, rfl, Nat.le_of_ble_eq_true rfl, Or.inr ⟨_, ⟨lwm_1 (j := 118) rfl, rfl⟩, by decide⟩⟩
theorem zfl_28 : zflP (6, 9, 6, 0) := ⟨RX6, TX6, 3, rfl, Nat.le_of_ble_eq_true rfl, Or.inl ⟨lwm_1 (j := 115) rfl, rfl⟩⟩
theorem zfl_29 : zflP (6, 18, 6, 1) := ⟨RX6, TX6, 3, rfl, Nat.le_of_ble_eq_true rfl, Or.inl ⟨lwm_1 (j := 117) rfl, rfl⟩⟩
theorem zfl_30 : zflP (6, 25, 6, 2) := ⟨RX6, TX6, 3, rfl, Nat.le_of_ble_eq_true rfl, Or.inl ⟨lwm_1 (j := 122) rfl, rfl⟩⟩
theorem zfl_31 : zflP (6, 54, 7, 0) := ⟨RX7, TX7, 9, rfl, Nat.le_of_ble_eq_true rfl, Or.inr ⟨_, ⟨lwm_1 (j := 75) rfl, rfl⟩, by decide⟩⟩
theorem zfl_32 : zflP (6, 58, 8, 1) := ⟨RX8, TX8, 2, rfl, Nat.le_of_ble_eq_true rfl, Or.inr ⟨_, ⟨lwm_1 (j := 66) rfl, rfl⟩, by decide⟩⟩
theorem zfl_33 : zflP (6, 67, 7, 8) := ⟨RX7, TX7, 9, rfl, Nat.le_of_ble_eq_true rfl, Or.inr ⟨_, ⟨lwm_1 (j := 94) rfl, rfl⟩, by decide⟩⟩
theorem zfl_34 : zflP (6, 68, 7, 1) := ⟨RX7, TX7, 9, rfl, Nat.le_of_ble_eq_true rfl, Or.inr ⟨_, ⟨lwm_1 (j := 79) rfl, rfl⟩, by decide⟩⟩
theorem zfl_35 : zflP (6, 71, 7, 2) := ⟨RX7, TX7, 9, rfl, Nat.le_of_ble_eq_true rfl, Or.inr ⟨_, ⟨lwm_1 (j := 82) rfl, rfl⟩, by decide⟩⟩
theorem zfl_36 : zflP (6, 74, 7, 3) := ⟨RX7, TX7, 9, rfl, Nat.le_of_ble_eq_true rfl, Or.inr ⟨_, ⟨lwm_1 (j := 85) rfl, rfl⟩, by decide⟩⟩
theorem zfl_37 : zflP (7, 12, 7, 0) := ⟨RX7, TX7, 9, rfl, Nat.le_of_ble_eq_true rfl, Or.inl ⟨lwm_1 (j := 73) rfl, rfl⟩⟩
theorem zfl_38 : zflP (7, 18, 7, 1) := ⟨RX7, TX7, 9, rfl, Nat.le_of_ble_eq_true rfl, Or.inl ⟨lwm_1 (j := 77) rfl, rfl⟩⟩
theorem zfl_39 : zflP (7, 22, 7, 2) := ⟨RX7, TX7, 9, rfl, Nat.le_of_ble_eq_true rfl, Or.inl ⟨lwm_1 (j := 80) rfl, rfl⟩⟩
theorem zfl_40 : zflP (7, 25, 7, 3) := ⟨RX7, TX7, 9, rfl, Nat.le_of_ble_eq_true rfl, Or.inl ⟨lwm_1 (j := 84) rfl, rfl⟩⟩
theorem zfl_41 : zflP (7, 28, 7, 4) := ⟨RX7, TX7, 9, rfl, Nat.le_of_ble_eq_true rfl, Or.inl ⟨lwm_1 (j := 86) rfl, rfl⟩⟩
theorem zfl_42 : zflP (7, 31, 7, 5) := ⟨RX7, TX7, 9, rfl, Nat.le_of_ble_eq_true rfl, Or.inl ⟨lwm_1 (j := 88) rfl, rfl⟩⟩
theorem zfl_43 : zflP (7, 34, 7, 6) := ⟨RX7, TX7, 9, rfl, Nat.le_of_ble_eq_true rfl, Or.inl ⟨lwm_1 (j := 90) rfl, rfl⟩⟩
theorem zfl_44 : zflP (7, 37, 7, 7) := ⟨RX7, TX7, 9, rfl, Nat.le_of_ble_eq_true rfl, Or.inl ⟨lwm_1 (j := 91) rfl, rfl⟩⟩
theorem zfl_45 : zflP (7, 40, 7, 8) := ⟨RX7, TX7, 9, rfl, Nat.le_of_ble_eq_true rfl, Or.inl ⟨lwm_1 (j := 93) rfl, rfl⟩⟩
theorem zfl_46 : zflP (7, 56, 8, 1) := ⟨RX8, TX8, 2, rfl, Nat.le_of_ble_eq_true rfl, Or.inr ⟨_, ⟨lwm_1 (j := 67) rfl, rfl⟩, by decide⟩⟩
theorem zfl_47 : zflP (7, 57, 5, 3) := ⟨RX5, TX5, 4, rfl, Nat.le_of_ble_eq_true rfl, Or.inr ⟨_, ⟨lwm_1 (j := 178) rfl, rfl⟩, by decide⟩⟩
theorem zfl_48 : zflP (7, 66, 5, 2) := ⟨RX5, TX5, 4, rfl, Nat.le_of_ble_eq_true rfl, Or.inr ⟨_, ⟨lwm_1 (j := 176) rfl, rfl⟩, by decide⟩⟩
theorem zfl_49 : zflP (7, 81, 6, 1) := ⟨RX6, TX6, 3, rfl, Nat.le_of_ble_eq_true rfl, Or.inr ⟨_, ⟨lwm_1 (j := 121) rfl, rfl⟩, by decide⟩⟩
theorem zfl_50 : zflP (8, 9, 8, 0) := ⟨RX8, TX8, 2, rfl, Nat.le_of_ble_eq_true rfl, Or.inl ⟨lwm_1 (j := 61) rfl, rfl⟩⟩
theorem zfl_51 : zflP (8, 15, 8, 1) := ⟨RX8, TX8, 2, rfl, Nat.le_of_ble_eq_true rfl, Or.inl ⟨lwm_1 (j := 62) rfl, rfl⟩⟩
theorem zfl_52 : zflP (9, 12, 9, 0) := ⟨RX9, TX9, 8, rfl, Nat.le_of_ble_eq_true rfl, Or.inl ⟨lwm_1 (j := 222) rfl, rfl⟩⟩
theorem zfl_53 : zflP (9, 19, 9, 1) := ⟨RX9, TX9, 8, rfl, Nat.le_of_ble_eq_true rfl, Or.inl ⟨lwm_1 (j := 223) rfl, rfl⟩⟩
theorem zfl_54 : zflP (9, 23, 9, 2) := ⟨RX9, TX9, 8, rfl, Nat.le_of_ble_eq_true rfl, Or.inl ⟨lwm_1 (j := 224) rfl, rfl⟩⟩
theorem zfl_55 : zflP (9, 30, 9, 3) := ⟨RX9, TX9, 8, rfl, Nat.le_of_ble_eq_true rfl, Or.inl ⟨lwm_1 (j := 225) rfl, rfl⟩⟩
theorem zfl_56 : zflP (9, 37, 9, 4) := ⟨RX9, TX9, 8, rfl, Nat.le_of_ble_eq_true rfl, Or.inl ⟨lwm_1 (j := 226) rfl, rfl⟩⟩
theorem zfl_57 : zflP (9, 44, 9, 5) := ⟨RX9, TX9, 8, rfl, Nat.le_of_ble_eq_true rfl, Or.inl ⟨lwm_1 (j := 227) rfl, rfl⟩⟩
theorem zfl_58 : zflP (9, 51, 9, 6) := ⟨RX9, TX9, 8, rfl, Nat.le_of_ble_eq_true rfl, Or.inl ⟨lwm_1 (j := 228) rfl, rfl⟩⟩
theorem zfl_59 : zflP (9, 58, 9, 7) := ⟨RX9, TX9, 8, rfl, Nat.le_of_ble_eq_true rfl, Or.inl ⟨lwm_1 (j := 229) rfl, rfl⟩⟩
theorem zfl_60 : zflP (9, 77, 6, 0) := ⟨RX6, TX6, 3, rfl, Nat.le_of_ble_eq_true rfl, Or.inr ⟨_, ⟨lwm_1 (j := 116) rfl, rfl⟩, by decide⟩⟩
theorem zfl_61 : zflP (9, 88, 8, 1) := ⟨RX8, TX8, 2, rfl, Nat.le_of_ble_eq_true rfl, Or.inr ⟨_, ⟨lwm_1 (j := 64) rfl, rfl⟩, by decide⟩⟩
theorem zfl_62 : zflP (9, 92, 6, 1) := ⟨RX6, TX6, 3, rfl, Nat.le_of_ble_eq_true rfl, Or.inr ⟨_, ⟨lwm_1 (j := 119) rfl, rfl⟩, by decide⟩⟩
theorem zfl_63 : zflP (9, 96, 0, 2) := ⟨RX0, TX0, 3, rfl, Nat.le_of_ble_eq_true rfl, Or.inr ⟨_, ⟨lwm_1 (j := 38) rfl, rfl⟩, by decide⟩⟩
theorem zfl_64 : zflP (9, 119, 3, 1) := ⟨RX3, TX3, 2, rfl, Nat.le_of_ble_eq_true rfl, Or.inr ⟨_, ⟨lwm_1 (j := 159) rfl, rfl⟩, by decide⟩⟩
theorem zfl_65 : zflP (9, 136, 0, 0) := ⟨RX0, TX0, 3, rfl, Nat.le_of_ble_eq_true rfl, Or.inr ⟨_, ⟨lwm_1 (j := 34) rfl, rfl⟩, by decide⟩⟩
theorem zfl_66 : zflP (9, 143, 6, 2) := ⟨RX6, TX6, 3, rfl, Nat.le_of_ble_eq_true rfl, Or.inr ⟨_, ⟨lwm_1 (j := 124) rfl, rfl⟩, by decide⟩⟩
theorem zfl_67 : zflP (9, 147, 7, 0) := ⟨RX7, TX7, 9, rfl, Nat.le_of_ble_eq_true rfl, Or.inr ⟨_, ⟨lwm_1 (j := 76) rfl, rfl⟩, by decide⟩⟩
theorem zfl_68 : zflP (9, 166, 7, 7) := ⟨RX7, TX7, 9, rfl, Nat.le_of_ble_eq_true rfl, Or.inr ⟨_, ⟨lwm_1 (j := 92) rfl, rfl⟩, by decide⟩⟩
theorem zfl_69 : zflP (9, 187, 7, 8) := ⟨RX7, TX7, 9, rfl, Nat.le_of_ble_eq_true rfl, Or.inr ⟨_, ⟨lwm_1 (j := 95) rfl, rfl⟩, by decide⟩⟩
theorem zfl_70 : zflP (9, 200, 2, 2) := ⟨RX2, TX2, 3, rfl, Nat.le_of_ble_eq_true rfl, Or.inr ⟨_, ⟨lwm_1 (j := 143) rfl, rfl⟩, by decide⟩⟩
theorem zfl_71 : zflP (9, 206, 4, 0) := ⟨RX4, TX4, 4, rfl, Nat.le_of_ble_eq_true rfl, Or.inr ⟨_, ⟨lwm_1 (j := 206) rfl, rfl⟩, by decide⟩⟩
theorem zfl_72 : zflP (9, 209, 4, 1) := ⟨RX4, TX4, 4, rfl, Nat.le_of_ble_eq_true rfl, Or.inr ⟨_, ⟨lwm_1 (j := 208) rfl, rfl⟩, by decide⟩⟩
theorem zfl_73 : zflP (9, 212, 4, 2) := ⟨RX4, TX4, 4, rfl, Nat.le_of_ble_eq_true rfl, Or.inr ⟨_, ⟨lwm_1 (j := 210) rfl, rfl⟩, by decide⟩⟩
theorem zfl_74 : zflP (9, 215, 7, 2) := ⟨RX7, TX7, 9, rfl, Nat.le_of_ble_eq_true rfl, Or.inr ⟨_, ⟨lwm_1 (j := 83) rfl, rfl⟩, by decide⟩⟩
theorem zfl_75 : zflP (9, 218, 4, 3) := ⟨RX4, TX4, 4, rfl, Nat.le_of_ble_eq_true rfl, Or.inr ⟨_, ⟨lwm_1 (j := 212) rfl, rfl⟩, by decide⟩⟩
theorem zfl_76 : zflP (9, 222, 7, 4) := ⟨RX7, TX7, 9, rfl, Nat.le_of_ble_eq_true rfl, Or.inr ⟨_, ⟨lwm_1 (j := 87) rfl, rfl⟩, by decide⟩⟩
set_option maxRecDepth 20000 in
theorem zfl_ok : ∀ q ∈ zfl, zflP q := List.forall_mem_cons.mpr ⟨zfl_0, List.forall_mem_cons.mpr ⟨zfl_1, List.forall_mem_cons.mpr ⟨zfl_2, List.forall_mem_cons.mpr ⟨zfl_3, List.forall_mem_cons.mpr ⟨zfl_4, List.forall_mem_cons.mpr ⟨zfl_5, List.forall_mem_cons.mpr ⟨zfl_6, List.forall_mem_cons.mpr ⟨zfl_7, List.forall_mem_cons.mpr ⟨zfl_8, List.forall_mem_cons.mpr ⟨zfl_9, List.forall_mem_cons.mpr ⟨zfl_10, List.forall_mem_cons.mpr ⟨zfl_11, List.forall_mem_cons.mpr ⟨zfl_12, List.forall_mem_cons.mpr ⟨zfl_13, List.forall_mem_cons.mpr ⟨zfl_14, List.forall_mem_cons.mpr ⟨zfl_15, List.forall_mem_cons.mpr ⟨zfl_16, List.forall_mem_cons.mpr ⟨zfl_17, List.forall_mem_cons.mpr ⟨zfl_18, List.forall_mem_cons.mpr ⟨zfl_19, List.forall_mem_cons.mpr ⟨zfl_20, List.forall_mem_cons.mpr ⟨zfl_21, List.forall_mem_cons.mpr ⟨zfl_22, List.forall_mem_cons.mpr ⟨zfl_23, List.forall_mem_cons.mpr ⟨zfl_24, List.forall_mem_cons.mpr ⟨zfl_25, List.forall_mem_cons.mpr ⟨zfl_26, List.forall_mem_cons.mpr ⟨zfl_27, List.forall_mem_cons.mpr ⟨zfl_28, List.forall_mem_cons.mpr ⟨zfl_29, List.forall_mem_cons.mpr ⟨zfl_30, List.forall_mem_cons.mpr ⟨zfl_31, List.forall_mem_cons.mpr ⟨zfl_32, List.forall_mem_cons.mpr ⟨zfl_33, List.forall_mem_cons.mpr ⟨zfl_34, List.forall_mem_cons.mpr ⟨zfl_35, List.forall_mem_cons.mpr ⟨zfl_36, List.forall_mem_cons.mpr ⟨zfl_37, List.forall_mem_cons.mpr ⟨zfl_38, List.forall_mem_cons.mpr ⟨zfl_39, List.forall_mem_cons.mpr ⟨zfl_40, List.forall_mem_cons.mpr ⟨zfl_41, List.forall_mem_cons.mpr ⟨zfl_42, List.forall_mem_cons.mpr ⟨zfl_43, List.forall_mem_cons.mpr ⟨zfl_44, List.forall_mem_cons.mpr ⟨zfl_45, List.forall_mem_cons.mpr ⟨zfl_46, List.forall_mem_cons.mpr ⟨zfl_47, List.forall_mem_cons.mpr ⟨zfl_48, List.forall_mem_cons.mpr ⟨zfl_49, List.forall_mem_cons.mpr ⟨zfl_50, List.forall_mem_cons.mpr ⟨zfl_51, List.forall_mem_cons.mpr ⟨zfl_52, List.forall_mem_cons.mpr ⟨zfl_53, List.forall_mem_cons.mpr ⟨zfl_54, List.forall_mem_cons.mpr ⟨zfl_55, List.forall_mem_cons.mpr ⟨zfl_56, List.forall_mem_cons.mpr ⟨zfl_57, List.forall_mem_cons.mpr ⟨zfl_58, List.forall_mem_cons.mpr ⟨zfl_59, List.forall_mem_cons.mpr ⟨zfl_60, List.forall_mem_cons.mpr ⟨zfl_61, List.forall_mem_cons.mpr ⟨zfl_62, List.forall_mem_cons.mpr ⟨zfl_63, List.forall_mem_cons.mpr ⟨zfl_64, List.forall_mem_cons.mpr ⟨zfl_65, List.forall_mem_cons.mpr ⟨zfl_66, List.forall_mem_cons.mpr ⟨zfl_67, List.forall_mem_cons.mpr ⟨zfl_68, List.forall_mem_cons.mpr ⟨zfl_69, List.forall_mem_cons.mpr ⟨zfl_70, List.forall_mem_cons.mpr ⟨zfl_71, List.forall_mem_cons.mpr ⟨zfl_72, List.forall_mem_cons.mpr ⟨zfl_73, List.forall_mem_cons.mpr ⟨zfl_74, List.forall_mem_cons.mpr ⟨zfl_75, List.forall_mem_cons.mpr ⟨zfl_76, fun _ h => absurd h List.not_mem_nil⟩⟩⟩⟩⟩⟩⟩⟩⟩⟩⟩⟩⟩⟩⟩⟩⟩⟩⟩⟩⟩⟩⟩⟩⟩⟩⟩⟩⟩⟩⟩⟩⟩⟩⟩⟩⟩⟩⟩⟩⟩⟩⟩⟩⟩⟩⟩⟩⟩⟩⟩⟩⟩⟩⟩⟩⟩⟩⟩⟩⟩⟩⟩⟩⟩⟩⟩⟩⟩⟩⟩⟩⟩⟩⟩⟩⟩
def zmlP (q : Nat × Nat × Nat) : Prop := zW (.methodLink (zcn q.1) q.2.1 (zy q.2.2)) ∨ ∃ host, zW (.methodLinkNest (zcn q.1) q.2.1 (zy q.2.2) host)
theorem zml_0 : zmlP (0, 23, 96) := Or.inr ⟨_, ⟨lwm_2 (j := 97) rfl, rfl⟩⟩
theorem zml_1 : zmlP (0, 27, 97) := Or.inr ⟨_, ⟨lwm_2 (j := 128) rfl, rfl⟩⟩
theorem zml_2 : zmlP (0, 30, 3) := Or.inl ⟨lwm_2 (j := 124) rfl, rfl⟩
theorem zml_3 : zmlP (0, 34, 93) := Or.inr ⟨_, ⟨lwm_3 (j := 99) rfl, rfl⟩⟩
theorem zml_4 : zmlP (0, 46, 56) := Or.inl ⟨lwm_2 (j := 120) rfl, rfl⟩
theorem zml_5 : zmlP (0, 51, 7) := Or.inl ⟨lwm_2 (j := 116) rfl, rfl⟩
theorem zml_6 : zmlP (0, 55, 2) := Or.inl ⟨lwm_2 (j := 152) rfl, rfl⟩
theorem zml_7 : zmlP (0, 58, 90) := Or.inr ⟨_, ⟨lwm_2 (j := 153) rfl, rfl⟩⟩
theorem zml_8 : zmlP (0, 67, 9) := Or.inl ⟨lwm_3 (j := 181) rfl, rfl⟩
theorem zml_9 : zmlP (0, 70, 98) := Or.inr ⟨_, ⟨lwm_2 (j := 135) rfl, rfl⟩⟩
theorem zml_10 : zmlP (0, 74, 99) := Or.inr ⟨_, ⟨lwm_2 (j := 136) rfl, rfl⟩⟩
theorem zml_11 : zmlP (0, 77, 100) := Or.inr ⟨_, ⟨lwm_2 (j := 40) rfl, rfl⟩⟩
theorem zml_12 : zmlP (0, 81, 101) := Or.inr ⟨_, ⟨lwm_2 (j := 41) rfl, rfl⟩⟩
theorem zml_13 : zmlP (1, 21, 2) := Or.inl ⟨lwm_2 (j := 93) rfl, rfl⟩
theorem zml_14 : zmlP (1, 25, 16) := Or.inl ⟨lwm_2 (j := 98) rfl, rfl⟩
theorem zml_15 : zmlP (1, 29, 91) := Or.inr ⟨_, ⟨lwm_2 (j := 102) rfl, rfl⟩⟩
theorem zml_16 : zmlP (2, 24, 36) := Or.inr ⟨_, ⟨lwm_2 (j := 22) rfl, rfl⟩⟩
theorem zml_17 : zmlP (2, 25, 43) := Or.inl ⟨lwm_2 (j := 23) rfl, rfl⟩
theorem zml_18 : zmlP (3, 19, 98) := Or.inr ⟨_, ⟨lwm_3 (j := 40) rfl, rfl⟩⟩
theorem zml_19 : zmlP (3, 23, 96) := Or.inr ⟨_, ⟨lwm_2 (j := 69) rfl, rfl⟩⟩
theorem zml_20 : zmlP (3, 32, 57) := Or.inl ⟨lwm_2 (j := 74) rfl, rfl⟩
theorem zml_21 : zmlP (3, 36, 92) := Or.inr ⟨_, ⟨lwm_2 (j := 81) rfl, rfl⟩⟩
theorem zml_22 : zmlP (4, 31, 27) := Or.inl ⟨lwm_3 (j := 135) rfl, rfl⟩
theorem zml_23 : zmlP (4, 35, 28) := Or.inl ⟨lwm_3 (j := 140) rfl, rfl⟩
theorem zml_24 : zmlP (4, 39, 31) := Or.inl ⟨lwm_3 (j := 153) rfl, rfl⟩
theorem zml_25 : zmlP (4, 43, 47) := Or.inl ⟨lwm_3 (j := 138) rfl, rfl⟩
theorem zml_26 : zmlP (4, 53, 96) := Or.inr ⟨_, ⟨lwm_3 (j := 139) rfl, rfl⟩⟩
theorem zml_27 : zmlP (4, 66, 2) := Or.inl ⟨lwm_3 (j := 144) rfl, rfl⟩
theorem zml_28 : zmlP (4, 70, 29) := Or.inl ⟨lwm_3 (j := 145) rfl, rfl⟩
theorem zml_29 : zmlP (4, 74, 30) := Or.inl ⟨lwm_3 (j := 149) rfl, rfl⟩
theorem zml_30 : zmlP (4, 87, 7) := Or.inl ⟨lwm_3 (j := 152) rfl, rfl⟩
theorem zml_31 : zmlP (4, 91, 89) := Or.inr ⟨_, ⟨lwm_3 (j := 148) rfl, rfl⟩⟩
theorem zml_32 : zmlP (4, 94, 92) := Or.inr ⟨_, ⟨lwm_3 (j := 157) rfl, rfl⟩⟩
theorem zml_33 : zmlP (4, 98, 95) := Or.inr ⟨_, ⟨lwm_3 (j := 158) rfl, rfl⟩⟩
theorem zml_34 : zmlP (4, 102, 56) := Or.inl ⟨lwm_3 (j := 159) rfl, rfl⟩
theorem zml_35 : zmlP (5, 30, 98) := Or.inr ⟨_, ⟨lwm_2 (j := 180) rfl, rfl⟩⟩
theorem zml_36 : zmlP (5, 34, 56) := Or.inl ⟨lwm_2 (j := 181) rfl, rfl⟩
theorem zml_37 : zmlP (5, 38, 39) := Or.inl ⟨lwm_2 (j := 182) rfl, rfl⟩
theorem zml_38 : zmlP (5, 44, 35) := Or.inl ⟨lwm_2 (j := 194) rfl, rfl⟩
theorem zml_39 : zmlP (5, 52, 8) := Or.inl ⟨lwm_2 (j := 199) rfl, rfl⟩
theorem zml_40 : zmlP (5, 58, 59) := Or.inl ⟨lwm_2 (j := 200) rfl, rfl⟩
theorem zml_41 : zmlP (5, 62, 37) := Or.inl ⟨lwm_2 (j := 205) rfl, rfl⟩
theorem zml_42 : zmlP (5, 66, 34) := Or.inl ⟨lwm_2 (j := 206) rfl, rfl⟩
theorem zml_43 : zmlP (5, 69, 96) := Or.inr ⟨_, ⟨lwm_2 (j := 198) rfl, rfl⟩⟩
theorem zml_44 : zmlP (6, 17, 0) := Or.inr ⟨_, ⟨lwm_1 (j := 29) rfl, rfl⟩⟩
theorem zml_45 : zmlP (6, 24, 44) := Or.inr ⟨_, ⟨lwm_1 (j := 51) rfl, rfl⟩⟩
theorem zml_46 : zmlP (6, 29, 96) := Or.inr ⟨_, ⟨lwm_2 (j := 88) rfl, rfl⟩⟩
theorem zml_47 : zmlP (6, 39, 37) := Or.inl ⟨lwm_2 (j := 187) rfl, rfl⟩
theorem zml_48 : zmlP (6, 43, 93) := Or.inr ⟨_, ⟨lwm_2 (j := 191) rfl, rfl⟩⟩
theorem zml_49 : zmlP (6, 47, 3) := Or.inl ⟨lwm_3 (j := 104) rfl, rfl⟩
theorem zml_50 : zmlP (6, 51, 39) := Or.inl ⟨lwm_3 (j := 105) rfl, rfl⟩
theorem zml_51 : zmlP (6, 64, 56) := Or.inl ⟨lwm_3 (j := 176) rfl, rfl⟩
theorem zml_52 : zmlP (6, 77, 7) := Or.inl ⟨lwm_3 (j := 111) rfl, rfl⟩
theorem zml_53 : zmlP (6, 81, 100) := Or.inr ⟨_, ⟨lwm_2 (j := 27) rfl, rfl⟩⟩
theorem zml_54 : zmlP (6, 85, 13) := Or.inl ⟨lwm_2 (j := 36) rfl, rfl⟩
theorem zml_55 : zmlP (6, 89, 54) := Or.inl ⟨lwm_2 (j := 44) rfl, rfl⟩
theorem zml_56 : zmlP (7, 11, 55) := Or.inr ⟨_, ⟨lwm_1 (j := 57) rfl, rfl⟩⟩
theorem zml_57 : zmlP (7, 44, 45) := Or.inl ⟨lwm_3 (j := 17) rfl, rfl⟩
theorem zml_58 : zmlP (7, 48, 96) := Or.inr ⟨_, ⟨lwm_2 (j := 214) rfl, rfl⟩⟩
theorem zml_59 : zmlP (7, 52, 47) := Or.inl ⟨lwm_3 (j := 186) rfl, rfl⟩
theorem zml_60 : zmlP (7, 62, 98) := Or.inr ⟨_, ⟨lwm_2 (j := 215) rfl, rfl⟩⟩
theorem zml_61 : zmlP (7, 67, 56) := Or.inl ⟨lwm_2 (j := 216) rfl, rfl⟩
theorem zml_62 : zmlP (7, 71, 51) := Or.inl ⟨lwm_2 (j := 217) rfl, rfl⟩
theorem zml_63 : zmlP (7, 75, 39) := Or.inl ⟨lwm_2 (j := 234) rfl, rfl⟩
theorem zml_64 : zmlP (7, 85, 2) := Or.inl ⟨lwm_2 (j := 235) rfl, rfl⟩
theorem zml_65 : zmlP (7, 91, 52) := Or.inl ⟨lwm_2 (j := 236) rfl, rfl⟩
theorem zml_66 : zmlP (7, 95, 37) := Or.inl ⟨lwm_3 (j := 3) rfl, rfl⟩
theorem zml_67 : zmlP (7, 104, 100) := Or.inr ⟨_, ⟨lwm_2 (j := 53) rfl, rfl⟩⟩
theorem zml_68 : zmlP (7, 108, 93) := Or.inr ⟨_, ⟨lwm_2 (j := 221) rfl, rfl⟩⟩
theorem zml_69 : zmlP (7, 111, 94) := Or.inr ⟨_, ⟨lwm_2 (j := 222) rfl, rfl⟩⟩
theorem zml_70 : zmlP (7, 115, 53) := Or.inl ⟨lwm_2 (j := 226) rfl, rfl⟩
theorem zml_71 : zmlP (7, 118, 95) := Or.inr ⟨_, ⟨lwm_2 (j := 230) rfl, rfl⟩⟩
theorem zml_72 : zmlP (7, 121, 89) := Or.inr ⟨_, ⟨lwm_3 (j := 0) rfl, rfl⟩⟩
theorem zml_73 : zmlP (7, 124, 58) := Or.inl ⟨lwm_2 (j := 48) rfl, rfl⟩
theorem zml_74 : zmlP (8, 19, 99) := Or.inr ⟨_, ⟨lwm_2 (j := 78) rfl, rfl⟩⟩
theorem zml_75 : zmlP (8, 23, 101) := Or.inr ⟨_, ⟨lwm_2 (j := 52) rfl, rfl⟩⟩
theorem zml_76 : zmlP (8, 27, 56) := Or.inl ⟨lwm_2 (j := 204) rfl, rfl⟩
theorem zml_77 : zmlP (9, 11, 36) := Or.inr ⟨_, ⟨lwm_1 (j := 23) rfl, rfl⟩⟩
theorem zml_78 : zmlP (9, 18, 18) := Or.inr ⟨_, ⟨lwm_1 (j := 134) rfl, rfl⟩⟩
theorem zml_79 : zmlP (9, 29, 21) := Or.inr ⟨_, ⟨lwm_1 (j := 153) rfl, rfl⟩⟩
theorem zml_80 : zmlP (9, 36, 55) := Or.inr ⟨_, ⟨lwm_1 (j := 166) rfl, rfl⟩⟩
theorem zml_81 : zmlP (9, 43, 32) := Or.inr ⟨_, ⟨lwm_1 (j := 169) rfl, rfl⟩⟩
theorem zml_82 : zmlP (9, 50, 14) := Or.inr ⟨_, ⟨lwm_1 (j := 190) rfl, rfl⟩⟩
theorem zml_83 : zmlP (9, 57, 25) := Or.inr ⟨_, ⟨lwm_1 (j := 201) rfl, rfl⟩⟩
theorem zml_84 : zmlP (9, 66, 96) := Or.inl ⟨lwm_2 (j := 13) rfl, rfl⟩
theorem zml_85 : zmlP (9, 73, 19) := Or.inl ⟨lwm_2 (j := 18) rfl, rfl⟩
theorem zml_86 : zmlP (9, 80, 98) := Or.inl ⟨lwm_2 (j := 54) rfl, rfl⟩
theorem zml_87 : zmlP (9, 84, 85) := Or.inl ⟨lwm_2 (j := 61) rfl, rfl⟩
theorem zml_88 : zmlP (9, 99, 38) := Or.inl ⟨lwm_2 (j := 84) rfl, rfl⟩
theorem zml_89 : zmlP (9, 103, 15) := Or.inl ⟨lwm_2 (j := 89) rfl, rfl⟩
theorem zml_90 : zmlP (9, 107, 17) := Or.inl ⟨lwm_2 (j := 105) rfl, rfl⟩
theorem zml_91 : zmlP (9, 111, 8) := Or.inl ⟨lwm_2 (j := 112) rfl, rfl⟩
theorem zml_92 : zmlP (9, 115, 11) := Or.inl ⟨lwm_2 (j := 131) rfl, rfl⟩
theorem zml_93 : zmlP (9, 122, 1) := Or.inl ⟨lwm_2 (j := 141) rfl, rfl⟩
theorem zml_94 : zmlP (9, 126, 88) := Or.inl ⟨lwm_2 (j := 145) rfl, rfl⟩
theorem zml_95 : zmlP (9, 129, 9) := Or.inl ⟨lwm_2 (j := 148) rfl, rfl⟩
theorem zml_96 : zmlP (9, 133, 2) := Or.inl ⟨lwm_2 (j := 158) rfl, rfl⟩
theorem zml_97 : zmlP (9, 139, 12) := Or.inl ⟨lwm_2 (j := 163) rfl, rfl⟩
theorem zml_98 : zmlP (9, 152, 58) := Or.inl ⟨lwm_2 (j := 171) rfl, rfl⟩
theorem zml_99 : zmlP (9, 156, 86) := Or.inl ⟨lwm_2 (j := 172) rfl, rfl⟩
theorem zml_100 : zmlP (9, 159, 46) := Or.inl ⟨lwm_3 (j := 13) rfl, rfl⟩
theorem zml_101 : zmlP (9, 163, 47) := Or.inl ⟨lwm_3 (j := 21) rfl, rfl⟩
theorem zml_102 : zmlP (9, 169, 4) := Or.inl ⟨lwm_3 (j := 91) rfl, rfl⟩
theorem zml_103 : zmlP (9, 172, 5) := Or.inl ⟨lwm_3 (j := 95) rfl, rfl⟩
theorem zml_104 : zmlP (9, 175, 40) := Or.inl ⟨lwm_3 (j := 100) rfl, rfl⟩
theorem zml_105 : zmlP (9, 178, 37) := Or.inl ⟨lwm_3 (j := 106) rfl, rfl⟩
theorem zml_106 : zmlP (9, 181, 42) := Or.inl ⟨lwm_3 (j := 107) rfl, rfl⟩
theorem zml_107 : zmlP (9, 188, 48) := Or.inl ⟨lwm_3 (j := 168) rfl, rfl⟩
theorem zml_108 : zmlP (9, 191, 41) := Or.inl ⟨lwm_3 (j := 172) rfl, rfl⟩
theorem zml_109 : zmlP (9, 194, 10) := Or.inl ⟨lwm_3 (j := 177) rfl, rfl⟩
theorem zml_110 : zmlP (9, 197, 49) := Or.inl ⟨lwm_3 (j := 182) rfl, rfl⟩
theorem zml_111 : zmlP (9, 201, 45) := Or.inl ⟨lwm_3 (j := 126) rfl, rfl⟩
theorem zml_112 : zmlP (9, 202, 26) := Or.inl ⟨lwm_3 (j := 131) rfl, rfl⟩
theorem zml_113 : zmlP (9, 225, 33) := Or.inl ⟨lwm_2 (j := 176) rfl, rfl⟩
theorem zml_114 : zmlP (9, 236, 87) := Or.inl ⟨lwm_3 (j := 33) rfl, rfl⟩
theorem zml_115 : zmlP (9, 240, 22) := Or.inl ⟨lwm_3 (j := 36) rfl, rfl⟩
theorem zml_116 : zmlP (9, 242, 23) := Or.inl ⟨lwm_2 (j := 65) rfl, rfl⟩
theorem zml_117 : zmlP (9, 251, 24) := Or.inl ⟨lwm_2 (j := 70) rfl, rfl⟩
theorem zml_118 : zmlP (9, 254, 50) := Or.inl ⟨lwm_2 (j := 210) rfl, rfl⟩
theorem zml_119 : zmlP (9, 258, 91) := Or.inl ⟨lwm_2 (j := 156) rfl, rfl⟩
theorem zml_120 : zmlP (9, 261, 93) := Or.inl ⟨lwm_2 (j := 225) rfl, rfl⟩
theorem zml_121 : zmlP (9, 264, 94) := Or.inl ⟨lwm_2 (j := 233) rfl, rfl⟩
theorem zml_122 : zmlP (10, 10, 104) := Or.inl ⟨lwm_3 (j := 69) rfl, rfl⟩
theorem zml_123 : zmlP (10, 16, 107) := Or.inl ⟨lwm_3 (j := 75) rfl, rfl⟩
theorem zml_124 : zmlP (10, 20, 109) := Or.inl ⟨lwm_3 (j := 63) rfl, rfl⟩
theorem zml_125 : zmlP (10, 24, 106) := Or.inl ⟨lwm_3 (j := 66) rfl, rfl⟩
theorem zml_126 : zmlP (10, 28, 110) := Or.inl ⟨lwm_3 (j := 60) rfl, rfl⟩
theorem zml_127 : zmlP (10, 31, 111) := Or.inl ⟨lwm_3 (j := 72) rfl, rfl⟩
theorem zml_128 : zmlP (10, 34, 112) := Or.inl ⟨lwm_3 (j := 57) rfl, rfl⟩
theorem zml_129 : zmlP (10, 38, 105) := Or.inl ⟨lwm_3 (j := 78) rfl, rfl⟩
theorem zml_130 : zmlP (10, 41, 108) := Or.inl ⟨lwm_3 (j := 84) rfl, rfl⟩
theorem zml_131 : zmlP (10, 44, 68) := Or.inl ⟨lwm_3 (j := 87) rfl, rfl⟩
theorem zml_132 : zmlP (10, 49, 75) := Or.inl ⟨lwm_3 (j := 112) rfl, rfl⟩
theorem zml_133 : zmlP (10, 52, 114) := Or.inl ⟨lwm_3 (j := 116) rfl, rfl⟩
theorem zml_134 : zmlP (10, 56, 115) := Or.inl ⟨lwm_3 (j := 119) rfl, rfl⟩
theorem zml_135 : zmlP (10, 60, 71) := Or.inl ⟨lwm_3 (j := 122) rfl, rfl⟩
theorem zml_136 : zmlP (10, 61, 72) := Or.inl ⟨lwm_3 (j := 127) rfl, rfl⟩
theorem zml_137 : zmlP (10, 64, 73) := Or.inl ⟨lwm_3 (j := 160) rfl, rfl⟩
theorem zml_138 : zmlP (10, 67, 70) := Or.inl ⟨lwm_3 (j := 164) rfl, rfl⟩
theorem zml_139 : zmlP (10, 70, 79) := Or.inl ⟨lwm_3 (j := 29) rfl, rfl⟩
theorem zml_140 : zmlP (10, 74, 103) := Or.inl ⟨lwm_3 (j := 50) rfl, rfl⟩
theorem zml_141 : zmlP (10, 77, 60) := Or.inl ⟨lwm_1 (j := 15) rfl, rfl⟩
theorem zml_142 : zmlP (10, 78, 102) := Or.inl ⟨lwm_3 (j := 45) rfl, rfl⟩
theorem zml_143 : zmlP (10, 82, 80) := Or.inl ⟨lwm_3 (j := 41) rfl, rfl⟩
theorem zml_144 : zmlP (10, 86, 118) := Or.inl ⟨lwm_3 (j := 190) rfl, rfl⟩
theorem zml_145 : zmlP (10, 91, 117) := Or.inl ⟨lwm_3 (j := 187) rfl, rfl⟩
theorem zml_146 : zmlP (10, 95, 119) := Or.inl ⟨lwm_3 (j := 193) rfl, rfl⟩
theorem zml_147 : zmlP (10, 99, 62) := Or.inl ⟨lwm_2 (j := 57) rfl, rfl⟩
theorem zml_148 : zmlP (10, 102, 74) := Or.inl ⟨lwm_3 (j := 25) rfl, rfl⟩
theorem zml_149 : zmlP (10, 105, 113) := Or.inl ⟨lwm_3 (j := 54) rfl, rfl⟩
theorem zml_150 : zmlP (10, 109, 65) := Or.inl ⟨lwm_2 (j := 167) rfl, rfl⟩
theorem zml_151 : zmlP (10, 111, 67) := Or.inl ⟨lwm_3 (j := 9) rfl, rfl⟩
theorem zml_152 : zmlP (10, 115, 61) := Or.inl ⟨lwm_2 (j := 7) rfl, rfl⟩
theorem zml_153 : zmlP (10, 118, 66) := Or.inl ⟨lwm_3 (j := 5) rfl, rfl⟩
theorem zml_154 : zmlP (10, 121, 63) := Or.inl ⟨lwm_2 (j := 137) rfl, rfl⟩
theorem zml_155 : zmlP (10, 124, 64) := Or.inl ⟨lwm_2 (j := 159) rfl, rfl⟩
theorem zml_156 : zmlP (10, 127, 116) := Or.inl ⟨lwm_3 (j := 81) rfl, rfl⟩
set_option maxRecDepth 20000 in
theorem zml_ok : ∀ q ∈ zml, zmlP q := List.forall_mem_cons.mpr ⟨zml_0, List.forall_mem_cons.mpr ⟨zml_1, List.forall_mem_cons.mpr ⟨zml_2, List.forall_mem_cons.mpr ⟨zml_3, List.forall_mem_cons.mpr ⟨zml_4, List.forall_mem_cons.mpr ⟨zml_5, List.forall_mem_cons.mpr ⟨zml_6, List.forall_mem_cons.mpr ⟨zml_7, List.forall_mem_cons.mpr ⟨zml_8, List.forall_mem_cons.mpr ⟨zml_9, List.forall_mem_cons.mpr ⟨zml_10, List.forall_mem_cons.mpr ⟨zml_11, List.forall_mem_cons.mpr ⟨zml_12, List.forall_mem_cons.mpr ⟨zml_13, List.forall_mem_cons.mpr ⟨zml_14, List.forall_mem_cons.mpr ⟨zml_15, List.forall_mem_cons.mpr ⟨zml_16, List.forall_mem_cons.mpr ⟨zml_17, List.forall_mem_cons.mpr ⟨zml_18, List.forall_mem_cons.mpr ⟨zml_19, List.forall_mem_cons.mpr ⟨zml_20, List.forall_mem_cons.mpr ⟨zml_21, List.forall_mem_cons.mpr ⟨zml_22, List.forall_mem_cons.mpr ⟨zml_23, List.forall_mem_cons.mpr ⟨zml_24, List.forall_mem_cons.mpr ⟨zml_25, List.forall_mem_cons.mpr ⟨zml_26, List.forall_mem_cons.mpr ⟨zml_27, List.forall_mem_cons.mpr ⟨zml_28, List.forall_mem_cons.mpr ⟨zml_29, List.forall_mem_cons.mpr ⟨zml_30, List.forall_mem_cons.mpr ⟨zml_31, List.forall_mem_cons.mpr ⟨zml_32, List.forall_mem_cons.mpr ⟨zml_33, List.forall_mem_cons.mpr ⟨zml_34, List.forall_mem_cons.mpr ⟨zml_35, List.forall_mem_cons.mpr ⟨zml_36, List.forall_mem_cons.mpr ⟨zml_37, List.forall_mem_cons.mpr ⟨zml_38, List.forall_mem_cons.mpr ⟨zml_39, List.forall_mem_cons.mpr ⟨zml_40, List.forall_mem_cons.mpr ⟨zml_41, List.forall_mem_cons.mpr ⟨zml_42, List.forall_mem_cons.mpr ⟨zml_43, List.forall_mem_cons.mpr ⟨zml_44, List.forall_mem_cons.mpr ⟨zml_45, List.forall_mem_cons.mpr ⟨zml_46, List.forall_mem_cons.mpr ⟨zml_47, List.forall_mem_cons.mpr ⟨zml_48, List.forall_mem_cons.mpr ⟨zml_49, List.forall_mem_cons.mpr ⟨zml_50, List.forall_mem_cons.mpr ⟨zml_51, List.forall_mem_cons.mpr ⟨zml_52, List.forall_mem_cons.mpr ⟨zml_53, List.forall_mem_cons.mpr ⟨zml_54, List.forall_mem_cons.mpr ⟨zml_55, List.forall_mem_cons.mpr ⟨zml_56, List.forall_mem_cons.mpr ⟨zml_57, List.forall_mem_cons.mpr ⟨zml_58, List.forall_mem_cons.mpr ⟨zml_59, List.forall_mem_cons.mpr ⟨zml_60, List.forall_mem_cons.mpr ⟨zml_61, List.forall_mem_cons.mpr ⟨zml_62, List.forall_mem_cons.mpr ⟨zml_63, List.forall_mem_cons.mpr ⟨zml_64, List.forall_mem_cons.mpr ⟨zml_65, List.forall_mem_cons.mpr ⟨zml_66, List.forall_mem_cons.mpr ⟨zml_67, List.forall_mem_cons.mpr ⟨zml_68, List.forall_mem_cons.mpr ⟨zml_69, List.forall_mem_cons.mpr ⟨zml_70, List.forall_mem_cons.mpr ⟨zml_71, List.forall_mem_cons.mpr ⟨zml_72, List.forall_mem_cons.mpr ⟨zml_73, List.forall_mem_cons.mpr ⟨zml_74, List.forall_mem_cons.mpr ⟨zml_75, List.forall_mem_cons.mpr ⟨zml_76, List.forall_mem_cons.mpr ⟨zml_77, List.forall_mem_cons.mpr ⟨zml_78, List.forall_mem_cons.mpr ⟨zml_79, List.forall_mem_cons.mpr ⟨zml_80, List.forall_mem_cons.mpr ⟨zml_81, List.forall_mem_cons.mpr ⟨zml_82, List.forall_mem_cons.mpr ⟨zml_83, List.forall_mem_cons.mpr ⟨zml_84, List.forall_mem_cons.mpr ⟨zml_85, List.forall_mem_cons.mpr ⟨zml_86, List.forall_mem_cons.mpr ⟨zml_87, List.forall_mem_cons.mpr ⟨zml_88, List.forall_mem_cons.mpr ⟨zml_89, List.forall_mem_cons.mpr ⟨zml_90, List.forall_mem_cons.mpr ⟨zml_91, List.forall_mem_cons.mpr ⟨zml_92, List.forall_mem_cons.mpr ⟨zml_93, List.forall_mem_cons.mpr ⟨zml_94, List.forall_mem_cons.mpr ⟨zml_95, List.forall_mem_cons.mpr ⟨zml_96, List.forall_mem_cons.mpr ⟨zml_97, List.forall_mem_cons.mpr ⟨zml_98, List.forall_mem_cons.mpr ⟨zml_99, List.forall_mem_cons.mpr ⟨zml_100, List.forall_mem_cons.mpr ⟨zml_101, List.forall_mem_cons.mpr ⟨zml_102, List.forall_mem_cons.mpr ⟨zml_103, List.forall_mem_cons.mpr ⟨zml_104, List.forall_mem_cons.mpr ⟨zml_105, List.forall_mem_cons.mpr ⟨zml_106, List.forall_mem_cons.mpr ⟨zml_107, List.forall_mem_cons.mpr ⟨zml_108, List.forall_mem_cons.mpr ⟨zml_109, List.forall_mem_cons.mpr ⟨zml_110, List.forall_mem_cons.mpr ⟨zml_111, List.forall_mem_cons.mpr ⟨zml_112, List.forall_mem_cons.mpr ⟨zml_113, List.forall_mem_cons.mpr ⟨zml_114, List.forall_mem_cons.mpr ⟨zml_115, List.forall_mem_cons.mpr ⟨zml_116, List.forall_mem_cons.mpr ⟨zml_117, List.forall_mem_cons.mpr ⟨zml_118, List.forall_mem_cons.mpr ⟨zml_119, List.forall_mem_cons.mpr ⟨zml_120, List.forall_mem_cons.mpr ⟨zml_121, List.forall_mem_cons.mpr ⟨zml_122, List.forall_mem_cons.mpr ⟨zml_123, List.forall_mem_cons.mpr ⟨zml_124, List.forall_mem_cons.mpr ⟨zml_125, List.forall_mem_cons.mpr ⟨zml_126, List.forall_mem_cons.mpr ⟨zml_127, List.forall_mem_cons.mpr ⟨zml_128, List.forall_mem_cons.mpr ⟨zml_129, List.forall_mem_cons.mpr ⟨zml_130, List.forall_mem_cons.mpr ⟨zml_131, List.forall_mem_cons.mpr ⟨zml_132, List.forall_mem_cons.mpr ⟨zml_133, List.forall_mem_cons.mpr ⟨zml_134, List.forall_mem_cons.mpr ⟨zml_135, List.forall_mem_cons.mpr ⟨zml_136, List.forall_mem_cons.mpr ⟨zml_137, List.forall_mem_cons.mpr ⟨zml_138, List.forall_mem_cons.mpr ⟨zml_139, List.forall_mem_cons.mpr ⟨zml_140, List.forall_mem_cons.mpr ⟨zml_141, List.forall_mem_cons.mpr ⟨zml_142, List.forall_mem_cons.mpr ⟨zml_143, List.forall_mem_cons.mpr ⟨zml_144, List.forall_mem_cons.mpr ⟨zml_145, List.forall_mem_cons.mpr ⟨zml_146, List.forall_mem_cons.mpr ⟨zml_147, List.forall_mem_cons.mpr ⟨zml_148, List.forall_mem_cons.mpr ⟨zml_149, List.forall_mem_cons.mpr ⟨zml_150, List.forall_mem_cons.mpr ⟨zml_151, List.forall_mem_cons.mpr ⟨zml_152, List.forall_mem_cons.mpr ⟨zml_153, List.forall_mem_cons.mpr ⟨zml_154, List.forall_mem_cons.mpr ⟨zml_155, List.forall_mem_cons.mpr ⟨zml_156, fun _ h => absurd h List.not_mem_nil⟩⟩⟩⟩⟩⟩⟩⟩⟩⟩⟩⟩⟩⟩⟩⟩⟩⟩⟩⟩⟩⟩⟩⟩⟩⟩⟩⟩⟩⟩⟩⟩⟩⟩⟩⟩⟩⟩⟩⟩⟩⟩⟩⟩⟩⟩⟩⟩⟩⟩⟩⟩⟩⟩⟩⟩⟩⟩⟩⟩⟩⟩⟩⟩⟩⟩⟩⟩⟩⟩⟩⟩⟩⟩⟩⟩⟩⟩⟩⟩⟩⟩⟩⟩⟩⟩⟩⟩⟩⟩⟩⟩⟩⟩⟩⟩⟩⟩⟩⟩⟩⟩⟩⟩⟩⟩⟩⟩⟩⟩⟩⟩⟩⟩⟩⟩⟩⟩⟩⟩⟩⟩⟩⟩⟩⟩⟩⟩⟩⟩⟩⟩⟩⟩⟩⟩⟩⟩⟩⟩⟩⟩⟩⟩⟩⟩⟩⟩⟩⟩⟩⟩⟩⟩⟩⟩⟩
def zklP (q : Nat × Nat × Nat) : Prop := zW (.classLink (zcn q.1) q.2.1 (zcn q.2.2)) ∧ q.2.2 < 10
theorem zkl_0 : zklP (2, 9, 6) := ⟨⟨lwm_1 (j := 138) rfl, rfl⟩, Nat.le_of_ble_eq_true rfl⟩
theorem zkl_1 : zklP (6, 15, 0) := ⟨⟨lwm_1 (j := 27) rfl, rfl⟩, Nat.le_of_ble_eq_true rfl⟩
theorem zkl_2 : zklP (6, 22, 7) := ⟨⟨lwm_1 (j := 49) rfl, rfl⟩, Nat.le_of_ble_eq_true rfl⟩
theorem zkl_3 : zklP (7, 9, 8) := ⟨⟨lwm_1 (j := 55) rfl, rfl⟩, Nat.le_of_ble_eq_true rfl⟩
theorem zkl_4 : zklP (9, 9, 6) := ⟨⟨lwm_1 (j := 21) rfl, rfl⟩, Nat.le_of_ble_eq_true rfl⟩
theorem zkl_5 : zklP (9, 16, 2) := ⟨⟨lwm_1 (j := 132) rfl, rfl⟩, Nat.le_of_ble_eq_true rfl⟩
theorem zkl_6 : zklP (9, 27, 3) := ⟨⟨lwm_1 (j := 151) rfl, rfl⟩, Nat.le_of_ble_eq_true rfl⟩
theorem zkl_7 : zklP (9, 34, 8) := ⟨⟨lwm_1 (j := 165) rfl, rfl⟩, Nat.le_of_ble_eq_true rfl⟩
theorem zkl_8 : zklP (9, 41, 5) := ⟨⟨lwm_1 (j := 167) rfl, rfl⟩, Nat.le_of_ble_eq_true rfl⟩
theorem zkl_9 : zklP (9, 48, 1) := ⟨⟨lwm_1 (j := 188) rfl, rfl⟩, Nat.le_of_ble_eq_true rfl⟩
theorem zkl_10 : zklP (9, 55, 4) := ⟨⟨lwm_1 (j := 199) rfl, rfl⟩, Nat.le_of_ble_eq_true rfl⟩
theorem zkl_11 : zklP (10, 45, 9) := ⟨⟨lwm_1 (j := 13) rfl, rfl⟩, Nat.le_of_ble_eq_true rfl⟩
theorem zkl_ok : ∀ q ∈ zkl, zklP q := List.forall_mem_cons.mpr ⟨zkl_0, List.forall_mem_cons.mpr ⟨zkl_1, List.forall_mem_cons.mpr ⟨zkl_2, List.forall_mem_cons.mpr ⟨zkl_3, List.forall_mem_cons.mpr ⟨zkl_4, List.forall_mem_cons.mpr ⟨zkl_5, List.forall_mem_cons.mpr ⟨zkl_6, List.forall_mem_cons.mpr ⟨zkl_7, List.forall_mem_cons.mpr ⟨zkl_8, List.forall_mem_cons.mpr ⟨zkl_9, List.forall_mem_cons.mpr ⟨zkl_10, List.forall_mem_cons.mpr ⟨zkl_11, fun _ h => absurd h List.not_mem_nil⟩⟩⟩⟩⟩⟩⟩⟩⟩⟩⟩⟩
def zllP (q : Nat × Nat × Nat) : Prop := zW (.constantLong (zcn q.1) q.2.1 (Int64.ofNat q.2.2))
theorem zll_0 : zllP (10, 89, 47) := ⟨lwm_3 (j := 196) rfl, rfl⟩
theorem zll_ok : ∀ q ∈ zll, zllP q := List.forall_mem_cons.mpr ⟨zll_0, fun _ h => absurd h List.not_mem_nil⟩
def zilP (q : Nat × Nat × Int) : Prop := zW (.constant (zcn q.1) q.2.1 (Int32.ofInt q.2.2))
theorem zil_0 : zilP (10, 7, 731459039) := ⟨lwm_3 (j := 48) rfl, rfl⟩
theorem zil_1 : zilP (10, 8, 985782759) := ⟨lwm_3 (j := 49) rfl, rfl⟩
theorem zil_2 : zilP (10, 9, 2147483647) := ⟨lwm_3 (j := 53) rfl, rfl⟩
theorem zil_ok : ∀ q ∈ zil, zilP q := List.forall_mem_cons.mpr ⟨zil_0, List.forall_mem_cons.mpr ⟨zil_1, List.forall_mem_cons.mpr ⟨zil_2, fun _ h => absurd h List.not_mem_nil⟩⟩⟩
def zslP (q : Nat × Nat × Nat) : Prop := (q.2.2 = 0 ∧ zW (.fieldLink (zcn q.1) q.2.1 "GarbleWords" "LOWEST" "[I")) ∨ (q.2.2 = 1 ∧ zW (.fieldLink (zcn q.1) q.2.1 "GarbleWords" "HIGHEST" "[I"))
theorem zsl_0 : zslP (9, 62, 0) := Or.inl ⟨rfl, ⟨lwm_2 (j := 11) rfl, rfl⟩⟩
theorem zsl_1 : zslP (9, 70, 1) := Or.inr ⟨rfl, ⟨lwm_2 (j := 16) rfl, rfl⟩⟩
theorem zsl_ok : ∀ q ∈ zsl, zslP q := List.forall_mem_cons.mpr ⟨zsl_0, List.forall_mem_cons.mpr ⟨zsl_1, fun _ h => absurd h List.not_mem_nil⟩⟩
def zbn (j : Nat) : MethodName := if j = 0 then Lib.objectInit else if j = 1 then Lib.Math.max.name else if j = 2 then Lib.Math.min.name else arraycopyName
def zblP (q : Nat × Nat × Nat) : Prop := q.2.2 ≤ 3 ∧ zW (.methodLink (zcn q.1) q.2.1 (zbn q.2.2))
theorem zbl_0 : zblP (0, 3, 0) := ⟨Nat.le_of_ble_eq_true rfl, ⟨lwm_1 (j := 32) rfl, rfl⟩⟩
theorem zbl_1 : zblP (0, 62, 2) := ⟨Nat.le_of_ble_eq_true rfl, ⟨lwm_2 (j := 157) rfl, rfl⟩⟩
theorem zbl_2 : zblP (1, 3, 0) := ⟨Nat.le_of_ble_eq_true rfl, ⟨lwm_1 (j := 193) rfl, rfl⟩⟩
theorem zbl_3 : zblP (1, 33, 1) := ⟨Nat.le_of_ble_eq_true rfl, ⟨lwm_2 (j := 109) rfl, rfl⟩⟩
theorem zbl_4 : zblP (2, 3, 0) := ⟨Nat.le_of_ble_eq_true rfl, ⟨lwm_1 (j := 137) rfl, rfl⟩⟩
theorem zbl_5 : zblP (3, 3, 0) := ⟨Nat.le_of_ble_eq_true rfl, ⟨lwm_1 (j := 156) rfl, rfl⟩⟩
theorem zbl_6 : zblP (4, 3, 0) := ⟨Nat.le_of_ble_eq_true rfl, ⟨lwm_1 (j := 204) rfl, rfl⟩⟩
theorem zbl_7 : zblP (5, 3, 0) := ⟨Nat.le_of_ble_eq_true rfl, ⟨lwm_1 (j := 172) rfl, rfl⟩⟩
theorem zbl_8 : zblP (6, 3, 0) := ⟨Nat.le_of_ble_eq_true rfl, ⟨lwm_1 (j := 26) rfl, rfl⟩⟩
theorem zbl_9 : zblP (6, 33, 1) := ⟨Nat.le_of_ble_eq_true rfl, ⟨lwm_2 (j := 186) rfl, rfl⟩⟩
theorem zbl_10 : zblP (7, 3, 0) := ⟨Nat.le_of_ble_eq_true rfl, ⟨lwm_1 (j := 54) rfl, rfl⟩⟩
theorem zbl_11 : zblP (7, 99, 1) := ⟨Nat.le_of_ble_eq_true rfl, ⟨lwm_3 (j := 4) rfl, rfl⟩⟩
theorem zbl_12 : zblP (8, 3, 0) := ⟨Nat.le_of_ble_eq_true rfl, ⟨lwm_1 (j := 60) rfl, rfl⟩⟩
theorem zbl_13 : zblP (9, 3, 0) := ⟨Nat.le_of_ble_eq_true rfl, ⟨lwm_1 (j := 18) rfl, rfl⟩⟩
theorem zbl_14 : zblP (9, 268, 2) := ⟨Nat.le_of_ble_eq_true rfl, ⟨lwm_2 (j := 30) rfl, rfl⟩⟩
theorem zbl_15 : zblP (9, 273, 3) := ⟨Nat.le_of_ble_eq_true rfl, ⟨lwm_2 (j := 33) rfl, rfl⟩⟩
theorem zbl_ok : ∀ q ∈ zbl, zblP q := List.forall_mem_cons.mpr ⟨zbl_0, List.forall_mem_cons.mpr ⟨zbl_1, List.forall_mem_cons.mpr ⟨zbl_2, List.forall_mem_cons.mpr ⟨zbl_3, List.forall_mem_cons.mpr ⟨zbl_4, List.forall_mem_cons.mpr ⟨zbl_5, List.forall_mem_cons.mpr ⟨zbl_6, List.forall_mem_cons.mpr ⟨zbl_7, List.forall_mem_cons.mpr ⟨zbl_8, List.forall_mem_cons.mpr ⟨zbl_9, List.forall_mem_cons.mpr ⟨zbl_10, List.forall_mem_cons.mpr ⟨zbl_11, List.forall_mem_cons.mpr ⟨zbl_12, List.forall_mem_cons.mpr ⟨zbl_13, List.forall_mem_cons.mpr ⟨zbl_14, List.forall_mem_cons.mpr ⟨zbl_15, fun _ h => absurd h List.not_mem_nil⟩⟩⟩⟩⟩⟩⟩⟩⟩⟩⟩⟩⟩⟩⟩⟩
theorem zwj_0 : zW (.instanceMethod Lib.objectInit) := ⟨lwm_1 (j := 19) rfl, rfl⟩
theorem zwj_1 : zW (.code Lib.objectInit ⟨#[0xb1]⟩ 1 none) := ⟨lwm_1 (j := 20) rfl, rfl⟩
theorem zwj_max : zW (.static Lib.Math.max.name) := ⟨lwm_2 (j := 110) rfl, rfl⟩
theorem zwj_maxc : zW (.code Lib.Math.max.name Lib.Math.max.code 2 (some .int)) := ⟨lwm_2 (j := 111) rfl, rfl⟩
theorem zwj_min : zW (.static Lib.Math.min.name) := ⟨lwm_2 (j := 31) rfl, rfl⟩
theorem zwj_minc : zW (.code Lib.Math.min.name Lib.Math.min.code 2 (some .int)) := ⟨lwm_2 (j := 32) rfl, rfl⟩
theorem zwj_mi : zW (.initialized "java/lang/Math") := ⟨lwm_1 (j := 11) rfl, rfl⟩
theorem zwj_si : zW (.initialized "java/lang/System") := ⟨lwm_1 (j := 12) rfl, rfl⟩
theorem zwj_an : zW (.native arraycopyName) := ⟨lwm_2 (j := 35) rfl, rfl⟩
theorem zwj_as : zW (.static arraycopyName) := ⟨lwm_2 (j := 34) rfl, rfl⟩
theorem zwj_ai : zW (.arrayClass .int) := ⟨lwm_1 (j := 47) rfl, rfl⟩
theorem zwj_aj : zW (.arrayClass .long) := ⟨lwm_1 (j := 48) rfl, rfl⟩
theorem zwj_az : zW (.arrayClass .boolean) := ⟨lwm_1 (j := 198) rfl, rfl⟩
theorem zwj_ao : zW (.arrayOver (.object "GarbleWords$State")) := ⟨lwm_1 (j := 139) rfl, rfl⟩
def zclP (ci : Nat) : Prop := ∃ (C : String) (T : u_T) (N : Nat) (ty : Nat → FieldType), vwCl[ci]? = some (C, T, N) ∧ zcn ci = C ∧ (∀ w ∈ u_ws C T N, zW w) ∧ (∀ k, k < N → parseFieldDescriptor (T k).2.2.1 = some (ty k)) ∧ (∀ a, a < N → ∀ b, b < N → a ≠ b → (T a).2.1 ≠ (T b).2.1) ∧ (zkinds.getD ci []).length = N ∧ (∀ k, k < N → (zkind ci k = 0 ∧ ty k = .int ∧ (T k).2.2.2 = false) ∨ (zkind ci k = 1 ∧ ty k = .boolean ∧ (T k).2.2.2 = false) ∨ (zkind ci k = 12 ∧ ((∃ c, ty k = .object c) ∨ ∃ t, ty k = .array t) ∧ (T k).2.2.2 = true ∧ (T k).1 = C)) ∧ zW (.instantiable C N) ∧ zW (.initialized C)
set_option maxRecDepth 20000 in
theorem zcl_0 : zclP 0 := ⟨RX0, TX0, 3, tyX0, rfl, rfl, List.forall_mem_cons.mpr ⟨⟨lwm_1 (j := 40) rfl, rfl⟩, List.forall_mem_cons.mpr ⟨⟨lwm_1 (j := 42) rfl, rfl⟩, List.forall_mem_cons.mpr ⟨⟨lwm_1 (j := 44) rfl, rfl⟩, fun _ h => absurd h List.not_mem_nil⟩⟩⟩, tyX0_ok, nmX0, rfl, lt_s (lt_s (lt_s (lt_0) (Or.inr (Or.inr ⟨rfl, Or.inr ⟨_, rfl⟩, rfl, rfl⟩))) (Or.inr (Or.inr ⟨rfl, Or.inr ⟨_, rfl⟩, rfl, rfl⟩))) (Or.inl ⟨rfl, rfl, rfl⟩), ⟨lwm_1 (j := 28) rfl, rfl⟩, ⟨lwm_1 (j := 3) rfl, rfl⟩⟩
set_option maxRecDepth 20000 in
theorem zcl_1 : zclP 1 := ⟨RX1, TX1, 1, tyX1, rfl, rfl, List.forall_mem_cons.mpr ⟨⟨lwm_1 (j := 195) rfl, rfl⟩, fun _ h => absurd h List.not_mem_nil⟩, tyX1_ok, nmX1, rfl, lt_s (lt_0) (Or.inr (Or.inr ⟨rfl, Or.inr ⟨_, rfl⟩, rfl, rfl⟩)), ⟨lwm_1 (j := 189) rfl, rfl⟩, ⟨lwm_1 (j := 9) rfl, rfl⟩⟩
set_option maxRecDepth 20000 in
theorem zcl_2 : zclP 2 := ⟨RX2, TX2, 3, tyX2, rfl, rfl, List.forall_mem_cons.mpr ⟨⟨lwm_1 (j := 144) rfl, rfl⟩, List.forall_mem_cons.mpr ⟨⟨lwm_1 (j := 146) rfl, rfl⟩, List.forall_mem_cons.mpr ⟨⟨lwm_1 (j := 148) rfl, rfl⟩, fun _ h => absurd h List.not_mem_nil⟩⟩⟩, tyX2_ok, nmX2, rfl, lt_s (lt_s (lt_s (lt_0) (Or.inr (Or.inr ⟨rfl, Or.inr ⟨_, rfl⟩, rfl, rfl⟩))) (Or.inl ⟨rfl, rfl, rfl⟩)) (Or.inl ⟨rfl, rfl, rfl⟩), ⟨lwm_1 (j := 133) rfl, rfl⟩, ⟨lwm_1 (j := 6) rfl, rfl⟩⟩
set_option maxRecDepth 20000 in
theorem zcl_3 : zclP 3 := ⟨RX3, TX3, 2, tyX3, rfl, rfl, List.forall_mem_cons.mpr ⟨⟨lwm_1 (j := 160) rfl, rfl⟩, List.forall_mem_cons.mpr ⟨⟨lwm_1 (j := 162) rfl, rfl⟩, fun _ h => absurd h List.not_mem_nil⟩⟩, tyX3_ok, nmX3, rfl, lt_s (lt_s (lt_0) (Or.inr (Or.inr ⟨rfl, Or.inr ⟨_, rfl⟩, rfl, rfl⟩))) (Or.inl ⟨rfl, rfl, rfl⟩), ⟨lwm_1 (j := 152) rfl, rfl⟩, ⟨lwm_1 (j := 7) rfl, rfl⟩⟩
set_option maxRecDepth 20000 in
theorem zcl_4 : zclP 4 := ⟨RX4, TX4, 4, tyX4, rfl, rfl, List.forall_mem_cons.mpr ⟨⟨lwm_1 (j := 213) rfl, rfl⟩, List.forall_mem_cons.mpr ⟨⟨lwm_1 (j := 215) rfl, rfl⟩, List.forall_mem_cons.mpr ⟨⟨lwm_1 (j := 217) rfl, rfl⟩, List.forall_mem_cons.mpr ⟨⟨lwm_1 (j := 219) rfl, rfl⟩, fun _ h => absurd h List.not_mem_nil⟩⟩⟩⟩, tyX4_ok, nmX4, rfl, lt_s (lt_s (lt_s (lt_s (lt_0) (Or.inl ⟨rfl, rfl, rfl⟩)) (Or.inl ⟨rfl, rfl, rfl⟩)) (Or.inl ⟨rfl, rfl, rfl⟩)) (Or.inr (Or.inl ⟨rfl, rfl, rfl⟩)), ⟨lwm_1 (j := 200) rfl, rfl⟩, ⟨lwm_1 (j := 10) rfl, rfl⟩⟩
set_option maxRecDepth 20000 in
theorem zcl_5 : zclP 5 := ⟨RX5, TX5, 4, tyX5, rfl, rfl, List.forall_mem_cons.mpr ⟨⟨lwm_1 (j := 179) rfl, rfl⟩, List.forall_mem_cons.mpr ⟨⟨lwm_1 (j := 181) rfl, rfl⟩, List.forall_mem_cons.mpr ⟨⟨lwm_1 (j := 183) rfl, rfl⟩, List.forall_mem_cons.mpr ⟨⟨lwm_1 (j := 185) rfl, rfl⟩, fun _ h => absurd h List.not_mem_nil⟩⟩⟩⟩, tyX5_ok, nmX5, rfl, lt_s (lt_s (lt_s (lt_s (lt_0) (Or.inr (Or.inr ⟨rfl, Or.inr ⟨_, rfl⟩, rfl, rfl⟩))) (Or.inr (Or.inr ⟨rfl, Or.inr ⟨_, rfl⟩, rfl, rfl⟩))) (Or.inr (Or.inr ⟨rfl, Or.inr ⟨_, rfl⟩, rfl, rfl⟩))) (Or.inr (Or.inr ⟨rfl, Or.inr ⟨_, rfl⟩, rfl, rfl⟩)), ⟨lwm_1 (j := 168) rfl, rfl⟩, ⟨lwm_1 (j := 8) rfl, rfl⟩⟩
set_option maxRecDepth 20000 in
theorem zcl_6 : zclP 6 := ⟨RX6, TX6, 3, tyX6, rfl, rfl, List.forall_mem_cons.mpr ⟨⟨lwm_1 (j := 125) rfl, rfl⟩, List.forall_mem_cons.mpr ⟨⟨lwm_1 (j := 127) rfl, rfl⟩, List.forall_mem_cons.mpr ⟨⟨lwm_1 (j := 129) rfl, rfl⟩, fun _ h => absurd h List.not_mem_nil⟩⟩⟩, tyX6_ok, nmX6, rfl, lt_s (lt_s (lt_s (lt_0) (Or.inr (Or.inr ⟨rfl, Or.inr ⟨_, rfl⟩, rfl, rfl⟩))) (Or.inr (Or.inr ⟨rfl, Or.inl ⟨_, rfl⟩, rfl, rfl⟩))) (Or.inr (Or.inr ⟨rfl, Or.inl ⟨_, rfl⟩, rfl, rfl⟩)), ⟨lwm_1 (j := 22) rfl, rfl⟩, ⟨lwm_1 (j := 2) rfl, rfl⟩⟩
set_option maxRecDepth 20000 in
theorem zcl_7 : zclP 7 := ⟨RX7, TX7, 9, tyX7, rfl, rfl, List.forall_mem_cons.mpr ⟨⟨lwm_1 (j := 96) rfl, rfl⟩, List.forall_mem_cons.mpr ⟨⟨lwm_1 (j := 98) rfl, rfl⟩, List.forall_mem_cons.mpr ⟨⟨lwm_1 (j := 100) rfl, rfl⟩, List.forall_mem_cons.mpr ⟨⟨lwm_1 (j := 102) rfl, rfl⟩, List.forall_mem_cons.mpr ⟨⟨lwm_1 (j := 104) rfl, rfl⟩, List.forall_mem_cons.mpr ⟨⟨lwm_1 (j := 106) rfl, rfl⟩, List.forall_mem_cons.mpr ⟨⟨lwm_1 (j := 108) rfl, rfl⟩, List.forall_mem_cons.mpr ⟨⟨lwm_1 (j := 110) rfl, rfl⟩, List.forall_mem_cons.mpr ⟨⟨lwm_1 (j := 112) rfl, rfl⟩, fun _ h => absurd h List.not_mem_nil⟩⟩⟩⟩⟩⟩⟩⟩⟩, tyX7_ok, nmX7, rfl, lt_s (lt_s (lt_s (lt_s (lt_s (lt_s (lt_s (lt_s (lt_s (lt_0) (Or.inr (Or.inr ⟨rfl, Or.inl ⟨_, rfl⟩, rfl, rfl⟩))) (Or.inr (Or.inr ⟨rfl, Or.inr ⟨_, rfl⟩, rfl, rfl⟩))) (Or.inr (Or.inr ⟨rfl, Or.inr ⟨_, rfl⟩, rfl, rfl⟩))) (Or.inr (Or.inr ⟨rfl, Or.inr ⟨_, rfl⟩, rfl, rfl⟩))) (Or.inr (Or.inr ⟨rfl, Or.inr ⟨_, rfl⟩, rfl, rfl⟩))) (Or.inr (Or.inr ⟨rfl, Or.inr ⟨_, rfl⟩, rfl, rfl⟩))) (Or.inr (Or.inr ⟨rfl, Or.inr ⟨_, rfl⟩, rfl, rfl⟩))) (Or.inr (Or.inr ⟨rfl, Or.inr ⟨_, rfl⟩, rfl, rfl⟩))) (Or.inl ⟨rfl, rfl, rfl⟩), ⟨lwm_1 (j := 50) rfl, rfl⟩, ⟨lwm_1 (j := 4) rfl, rfl⟩⟩
set_option maxRecDepth 20000 in
theorem zcl_8 : zclP 8 := ⟨RX8, TX8, 2, tyX8, rfl, rfl, List.forall_mem_cons.mpr ⟨⟨lwm_1 (j := 68) rfl, rfl⟩, List.forall_mem_cons.mpr ⟨⟨lwm_1 (j := 70) rfl, rfl⟩, fun _ h => absurd h List.not_mem_nil⟩⟩, tyX8_ok, nmX8, rfl, lt_s (lt_s (lt_0) (Or.inr (Or.inr ⟨rfl, Or.inr ⟨_, rfl⟩, rfl, rfl⟩))) (Or.inl ⟨rfl, rfl, rfl⟩), ⟨lwm_1 (j := 56) rfl, rfl⟩, ⟨lwm_1 (j := 5) rfl, rfl⟩⟩
set_option maxRecDepth 20000 in
theorem zcl_9 : zclP 9 := ⟨RX9, TX9, 8, tyX9, rfl, rfl, List.forall_mem_cons.mpr ⟨⟨lwm_1 (j := 230) rfl, rfl⟩, List.forall_mem_cons.mpr ⟨⟨lwm_1 (j := 232) rfl, rfl⟩, List.forall_mem_cons.mpr ⟨⟨lwm_1 (j := 234) rfl, rfl⟩, List.forall_mem_cons.mpr ⟨⟨lwm_1 (j := 236) rfl, rfl⟩, List.forall_mem_cons.mpr ⟨⟨lwm_1 (j := 238) rfl, rfl⟩, List.forall_mem_cons.mpr ⟨⟨lwm_2 (j := 0) rfl, rfl⟩, List.forall_mem_cons.mpr ⟨⟨lwm_2 (j := 2) rfl, rfl⟩, List.forall_mem_cons.mpr ⟨⟨lwm_2 (j := 4) rfl, rfl⟩, fun _ h => absurd h List.not_mem_nil⟩⟩⟩⟩⟩⟩⟩⟩, tyX9_ok, nmX9, rfl, lt_s (lt_s (lt_s (lt_s (lt_s (lt_s (lt_s (lt_s (lt_0) (Or.inr (Or.inr ⟨rfl, Or.inl ⟨_, rfl⟩, rfl, rfl⟩))) (Or.inr (Or.inr ⟨rfl, Or.inl ⟨_, rfl⟩, rfl, rfl⟩))) (Or.inr (Or.inr ⟨rfl, Or.inr ⟨_, rfl⟩, rfl, rfl⟩))) (Or.inr (Or.inr ⟨rfl, Or.inl ⟨_, rfl⟩, rfl, rfl⟩))) (Or.inr (Or.inr ⟨rfl, Or.inl ⟨_, rfl⟩, rfl, rfl⟩))) (Or.inr (Or.inr ⟨rfl, Or.inl ⟨_, rfl⟩, rfl, rfl⟩))) (Or.inr (Or.inr ⟨rfl, Or.inl ⟨_, rfl⟩, rfl, rfl⟩))) (Or.inr (Or.inr ⟨rfl, Or.inl ⟨_, rfl⟩, rfl, rfl⟩)), ⟨lwm_1 (j := 14) rfl, rfl⟩, ⟨lwm_1 (j := 1) rfl, rfl⟩⟩
theorem zcl_ok : ∀ ci, ci < 10 → zclP ci := lt_s (lt_s (lt_s (lt_s (lt_s (lt_s (lt_s (lt_s (lt_s (lt_s (lt_0) zcl_0) zcl_1) zcl_2) zcl_3) zcl_4) zcl_5) zcl_6) zcl_7) zcl_8) zcl_9
def zmP (k : Nat) : Prop := zW (.code (zy k) (zb k) (zmx k) (zrt k)) ∧ zW (.initialized (zy k).cls) ∧ (if zst k = true then zW (.static (zy k)) else zW (.instanceMethod (zy k))) ∧ (if zst k = false ∧ zis k = false then zW (.selects (zy k).cls (zy k) (zy k)) else True) ∧ (plainName (zy k).cls = true ∧ (zy k).cls ≠ "java/lang/invoke/MethodHandle" ∧ (zy k).cls ≠ "java/lang/invoke/VarHandle") ∧ (parseMethodDescriptor (zy k).desc).map (fun d => d.parameters.length) = some (if zst k = true then zna k else zna k - 1) ∧ zcn (zow k) = (zy k).cls ∧ (zst k = false → 1 ≤ zna k)
theorem zm_ok_0 : zmP 0 := ⟨⟨lwm_1 (j := 31) rfl, rfl⟩, ⟨lwm_1 (j := 3) rfl, rfl⟩, ⟨lwm_1 (j := 30) rfl, rfl⟩, trivial, ⟨by decide +kernel, by decide +kernel, by decide +kernel⟩, by decide +kernel, rfl, by decide +kernel⟩
theorem zm_ok_1 : zmP 1 := ⟨⟨lwm_2 (j := 144) rfl, rfl⟩, ⟨lwm_1 (j := 3) rfl, rfl⟩, ⟨lwm_2 (j := 142) rfl, rfl⟩, ⟨lwm_2 (j := 143) rfl, rfl⟩, ⟨by decide +kernel, by decide +kernel, by decide +kernel⟩, by decide +kernel, rfl, by decide +kernel⟩
theorem zm_ok_2 : zmP 2 := ⟨⟨lwm_2 (j := 96) rfl, rfl⟩, ⟨lwm_1 (j := 3) rfl, rfl⟩, ⟨lwm_2 (j := 94) rfl, rfl⟩, ⟨lwm_2 (j := 95) rfl, rfl⟩, ⟨by decide +kernel, by decide +kernel, by decide +kernel⟩, by decide +kernel, rfl, by decide +kernel⟩
theorem zm_ok_3 : zmP 3 := ⟨⟨lwm_2 (j := 127) rfl, rfl⟩, ⟨lwm_1 (j := 3) rfl, rfl⟩, ⟨lwm_2 (j := 125) rfl, rfl⟩, ⟨lwm_2 (j := 126) rfl, rfl⟩, ⟨by decide +kernel, by decide +kernel, by decide +kernel⟩, by decide +kernel, rfl, by decide +kernel⟩
theorem zm_ok_4 : zmP 4 := ⟨⟨lwm_3 (j := 94) rfl, rfl⟩, ⟨lwm_1 (j := 3) rfl, rfl⟩, ⟨lwm_3 (j := 92) rfl, rfl⟩, ⟨lwm_3 (j := 93) rfl, rfl⟩, ⟨by decide +kernel, by decide +kernel, by decide +kernel⟩, by decide +kernel, rfl, by decide +kernel⟩
theorem zm_ok_5 : zmP 5 := ⟨⟨lwm_3 (j := 98) rfl, rfl⟩, ⟨lwm_1 (j := 3) rfl, rfl⟩, ⟨lwm_3 (j := 96) rfl, rfl⟩, ⟨lwm_3 (j := 97) rfl, rfl⟩, ⟨by decide +kernel, by decide +kernel, by decide +kernel⟩, by decide +kernel, rfl, by decide +kernel⟩
theorem zm_ok_6 : zmP 6 := ⟨⟨lwm_1 (j := 31) rfl, rfl⟩, ⟨lwm_1 (j := 3) rfl, rfl⟩, ⟨lwm_1 (j := 30) rfl, rfl⟩, trivial, ⟨by decide +kernel, by decide +kernel, by decide +kernel⟩, by decide +kernel, rfl, by decide +kernel⟩
theorem zm_ok_7 : zmP 7 := ⟨⟨lwm_2 (j := 119) rfl, rfl⟩, ⟨lwm_1 (j := 3) rfl, rfl⟩, ⟨lwm_2 (j := 117) rfl, rfl⟩, ⟨lwm_2 (j := 118) rfl, rfl⟩, ⟨by decide +kernel, by decide +kernel, by decide +kernel⟩, by decide +kernel, rfl, by decide +kernel⟩
theorem zm_ok_8 : zmP 8 := ⟨⟨lwm_2 (j := 115) rfl, rfl⟩, ⟨lwm_1 (j := 3) rfl, rfl⟩, ⟨lwm_2 (j := 113) rfl, rfl⟩, ⟨lwm_2 (j := 114) rfl, rfl⟩, ⟨by decide +kernel, by decide +kernel, by decide +kernel⟩, by decide +kernel, rfl, by decide +kernel⟩
theorem zm_ok_9 : zmP 9 := ⟨⟨lwm_2 (j := 151) rfl, rfl⟩, ⟨lwm_1 (j := 3) rfl, rfl⟩, ⟨lwm_2 (j := 149) rfl, rfl⟩, ⟨lwm_2 (j := 150) rfl, rfl⟩, ⟨by decide +kernel, by decide +kernel, by decide +kernel⟩, by decide +kernel, rfl, by decide +kernel⟩
theorem zm_ok_10 : zmP 10 := ⟨⟨lwm_3 (j := 180) rfl, rfl⟩, ⟨lwm_1 (j := 3) rfl, rfl⟩, ⟨lwm_3 (j := 178) rfl, rfl⟩, ⟨lwm_3 (j := 179) rfl, rfl⟩, ⟨by decide +kernel, by decide +kernel, by decide +kernel⟩, by decide +kernel, rfl, by decide +kernel⟩
theorem zm_ok_11 : zmP 11 := ⟨⟨lwm_2 (j := 134) rfl, rfl⟩, ⟨lwm_1 (j := 3) rfl, rfl⟩, ⟨lwm_2 (j := 132) rfl, rfl⟩, ⟨lwm_2 (j := 133) rfl, rfl⟩, ⟨by decide +kernel, by decide +kernel, by decide +kernel⟩, by decide +kernel, rfl, by decide +kernel⟩
theorem zm_ok_12 : zmP 12 := ⟨⟨lwm_2 (j := 166) rfl, rfl⟩, ⟨lwm_1 (j := 3) rfl, rfl⟩, ⟨lwm_2 (j := 164) rfl, rfl⟩, ⟨lwm_2 (j := 165) rfl, rfl⟩, ⟨by decide +kernel, by decide +kernel, by decide +kernel⟩, by decide +kernel, rfl, by decide +kernel⟩
theorem zm_ok_13 : zmP 13 := ⟨⟨lwm_2 (j := 39) rfl, rfl⟩, ⟨lwm_1 (j := 3) rfl, rfl⟩, ⟨lwm_2 (j := 37) rfl, rfl⟩, ⟨lwm_2 (j := 38) rfl, rfl⟩, ⟨by decide +kernel, by decide +kernel, by decide +kernel⟩, by decide +kernel, rfl, by decide +kernel⟩
theorem zm_ok_14 : zmP 14 := ⟨⟨lwm_1 (j := 192) rfl, rfl⟩, ⟨lwm_1 (j := 9) rfl, rfl⟩, ⟨lwm_1 (j := 191) rfl, rfl⟩, trivial, ⟨by decide +kernel, by decide +kernel, by decide +kernel⟩, by decide +kernel, rfl, by decide +kernel⟩
theorem zm_ok_15 : zmP 15 := ⟨⟨lwm_2 (j := 92) rfl, rfl⟩, ⟨lwm_1 (j := 9) rfl, rfl⟩, ⟨lwm_2 (j := 90) rfl, rfl⟩, ⟨lwm_2 (j := 91) rfl, rfl⟩, ⟨by decide +kernel, by decide +kernel, by decide +kernel⟩, by decide +kernel, rfl, by decide +kernel⟩
theorem zm_ok_16 : zmP 16 := ⟨⟨lwm_2 (j := 101) rfl, rfl⟩, ⟨lwm_1 (j := 9) rfl, rfl⟩, ⟨lwm_2 (j := 99) rfl, rfl⟩, ⟨lwm_2 (j := 100) rfl, rfl⟩, ⟨by decide +kernel, by decide +kernel, by decide +kernel⟩, by decide +kernel, rfl, by decide +kernel⟩
theorem zm_ok_17 : zmP 17 := ⟨⟨lwm_2 (j := 108) rfl, rfl⟩, ⟨lwm_1 (j := 9) rfl, rfl⟩, ⟨lwm_2 (j := 106) rfl, rfl⟩, ⟨lwm_2 (j := 107) rfl, rfl⟩, ⟨by decide +kernel, by decide +kernel, by decide +kernel⟩, by decide +kernel, rfl, by decide +kernel⟩
theorem zm_ok_18 : zmP 18 := ⟨⟨lwm_1 (j := 136) rfl, rfl⟩, ⟨lwm_1 (j := 6) rfl, rfl⟩, ⟨lwm_1 (j := 135) rfl, rfl⟩, trivial, ⟨by decide +kernel, by decide +kernel, by decide +kernel⟩, by decide +kernel, rfl, by decide +kernel⟩
theorem zm_ok_19 : zmP 19 := ⟨⟨lwm_2 (j := 21) rfl, rfl⟩, ⟨lwm_1 (j := 6) rfl, rfl⟩, ⟨lwm_2 (j := 19) rfl, rfl⟩, ⟨lwm_2 (j := 20) rfl, rfl⟩, ⟨by decide +kernel, by decide +kernel, by decide +kernel⟩, by decide +kernel, rfl, by decide +kernel⟩
theorem zm_ok_20 : zmP 20 := ⟨⟨lwm_1 (j := 31) rfl, rfl⟩, ⟨lwm_1 (j := 3) rfl, rfl⟩, ⟨lwm_1 (j := 30) rfl, rfl⟩, trivial, ⟨by decide +kernel, by decide +kernel, by decide +kernel⟩, by decide +kernel, rfl, by decide +kernel⟩
theorem zm_ok_21 : zmP 21 := ⟨⟨lwm_1 (j := 155) rfl, rfl⟩, ⟨lwm_1 (j := 7) rfl, rfl⟩, ⟨lwm_1 (j := 154) rfl, rfl⟩, trivial, ⟨by decide +kernel, by decide +kernel, by decide +kernel⟩, by decide +kernel, rfl, by decide +kernel⟩
theorem zm_ok_22 : zmP 22 := ⟨⟨lwm_3 (j := 39) rfl, rfl⟩, ⟨lwm_1 (j := 7) rfl, rfl⟩, ⟨lwm_3 (j := 37) rfl, rfl⟩, ⟨lwm_3 (j := 38) rfl, rfl⟩, ⟨by decide +kernel, by decide +kernel, by decide +kernel⟩, by decide +kernel, rfl, by decide +kernel⟩
theorem zm_ok_23 : zmP 23 := ⟨⟨lwm_2 (j := 68) rfl, rfl⟩, ⟨lwm_1 (j := 7) rfl, rfl⟩, ⟨lwm_2 (j := 66) rfl, rfl⟩, ⟨lwm_2 (j := 67) rfl, rfl⟩, ⟨by decide +kernel, by decide +kernel, by decide +kernel⟩, by decide +kernel, rfl, by decide +kernel⟩
theorem zm_ok_24 : zmP 24 := ⟨⟨lwm_2 (j := 73) rfl, rfl⟩, ⟨lwm_1 (j := 7) rfl, rfl⟩, ⟨lwm_2 (j := 71) rfl, rfl⟩, ⟨lwm_2 (j := 72) rfl, rfl⟩, ⟨by decide +kernel, by decide +kernel, by decide +kernel⟩, by decide +kernel, rfl, by decide +kernel⟩
theorem zm_ok_25 : zmP 25 := ⟨⟨lwm_1 (j := 203) rfl, rfl⟩, ⟨lwm_1 (j := 10) rfl, rfl⟩, ⟨lwm_1 (j := 202) rfl, rfl⟩, trivial, ⟨by decide +kernel, by decide +kernel, by decide +kernel⟩, by decide +kernel, rfl, by decide +kernel⟩
theorem zm_ok_26 : zmP 26 := ⟨⟨lwm_3 (j := 134) rfl, rfl⟩, ⟨lwm_1 (j := 10) rfl, rfl⟩, ⟨lwm_3 (j := 132) rfl, rfl⟩, ⟨lwm_3 (j := 133) rfl, rfl⟩, ⟨by decide +kernel, by decide +kernel, by decide +kernel⟩, by decide +kernel, rfl, by decide +kernel⟩
theorem zm_ok_27 : zmP 27 := ⟨⟨lwm_3 (j := 137) rfl, rfl⟩, ⟨lwm_1 (j := 10) rfl, rfl⟩, ⟨lwm_3 (j := 136) rfl, rfl⟩, trivial, ⟨by decide +kernel, by decide +kernel, by decide +kernel⟩, by decide +kernel, rfl, by decide +kernel⟩
theorem zm_ok_28 : zmP 28 := ⟨⟨lwm_3 (j := 143) rfl, rfl⟩, ⟨lwm_1 (j := 10) rfl, rfl⟩, ⟨lwm_3 (j := 142) rfl, rfl⟩, ⟨lwm_0 (j := 7) rfl, rfl⟩, ⟨by decide +kernel, by decide +kernel, by decide +kernel⟩, by decide +kernel, rfl, by decide +kernel⟩
theorem zm_ok_29 : zmP 29 := ⟨⟨lwm_3 (j := 147) rfl, rfl⟩, ⟨lwm_1 (j := 10) rfl, rfl⟩, ⟨lwm_3 (j := 146) rfl, rfl⟩, trivial, ⟨by decide +kernel, by decide +kernel, by decide +kernel⟩, by decide +kernel, rfl, by decide +kernel⟩
theorem zm_ok_30 : zmP 30 := ⟨⟨lwm_3 (j := 151) rfl, rfl⟩, ⟨lwm_1 (j := 10) rfl, rfl⟩, ⟨lwm_3 (j := 150) rfl, rfl⟩, trivial, ⟨by decide +kernel, by decide +kernel, by decide +kernel⟩, by decide +kernel, rfl, by decide +kernel⟩
theorem zm_ok_31 : zmP 31 := ⟨⟨lwm_3 (j := 156) rfl, rfl⟩, ⟨lwm_1 (j := 10) rfl, rfl⟩, ⟨lwm_3 (j := 155) rfl, rfl⟩, ⟨lwm_0 (j := 8) rfl, rfl⟩, ⟨by decide +kernel, by decide +kernel, by decide +kernel⟩, by decide +kernel, rfl, by decide +kernel⟩
theorem zm_ok_32 : zmP 32 := ⟨⟨lwm_1 (j := 171) rfl, rfl⟩, ⟨lwm_1 (j := 8) rfl, rfl⟩, ⟨lwm_1 (j := 170) rfl, rfl⟩, trivial, ⟨by decide +kernel, by decide +kernel, by decide +kernel⟩, by decide +kernel, rfl, by decide +kernel⟩
theorem zm_ok_33 : zmP 33 := ⟨⟨lwm_2 (j := 179) rfl, rfl⟩, ⟨lwm_1 (j := 8) rfl, rfl⟩, ⟨lwm_2 (j := 177) rfl, rfl⟩, ⟨lwm_2 (j := 178) rfl, rfl⟩, ⟨by decide +kernel, by decide +kernel, by decide +kernel⟩, by decide +kernel, rfl, by decide +kernel⟩
theorem zm_ok_34 : zmP 34 := ⟨⟨lwm_2 (j := 209) rfl, rfl⟩, ⟨lwm_1 (j := 8) rfl, rfl⟩, ⟨lwm_2 (j := 208) rfl, rfl⟩, ⟨lwm_0 (j := 3) rfl, rfl⟩, ⟨by decide +kernel, by decide +kernel, by decide +kernel⟩, by decide +kernel, rfl, by decide +kernel⟩
theorem zm_ok_35 : zmP 35 := ⟨⟨lwm_2 (j := 197) rfl, rfl⟩, ⟨lwm_1 (j := 8) rfl, rfl⟩, ⟨lwm_2 (j := 196) rfl, rfl⟩, ⟨lwm_0 (j := 2) rfl, rfl⟩, ⟨by decide +kernel, by decide +kernel, by decide +kernel⟩, by decide +kernel, rfl, by decide +kernel⟩
theorem zm_ok_36 : zmP 36 := ⟨⟨lwm_1 (j := 25) rfl, rfl⟩, ⟨lwm_1 (j := 2) rfl, rfl⟩, ⟨lwm_1 (j := 24) rfl, rfl⟩, trivial, ⟨by decide +kernel, by decide +kernel, by decide +kernel⟩, by decide +kernel, rfl, by decide +kernel⟩
theorem zm_ok_37 : zmP 37 := ⟨⟨lwm_2 (j := 190) rfl, rfl⟩, ⟨lwm_1 (j := 2) rfl, rfl⟩, ⟨lwm_2 (j := 188) rfl, rfl⟩, ⟨lwm_2 (j := 189) rfl, rfl⟩, ⟨by decide +kernel, by decide +kernel, by decide +kernel⟩, by decide +kernel, rfl, by decide +kernel⟩
theorem zm_ok_38 : zmP 38 := ⟨⟨lwm_2 (j := 87) rfl, rfl⟩, ⟨lwm_1 (j := 2) rfl, rfl⟩, ⟨lwm_2 (j := 85) rfl, rfl⟩, ⟨lwm_2 (j := 86) rfl, rfl⟩, ⟨by decide +kernel, by decide +kernel, by decide +kernel⟩, by decide +kernel, rfl, by decide +kernel⟩
theorem zm_ok_39 : zmP 39 := ⟨⟨lwm_2 (j := 185) rfl, rfl⟩, ⟨lwm_1 (j := 2) rfl, rfl⟩, ⟨lwm_2 (j := 183) rfl, rfl⟩, ⟨lwm_2 (j := 184) rfl, rfl⟩, ⟨by decide +kernel, by decide +kernel, by decide +kernel⟩, by decide +kernel, rfl, by decide +kernel⟩
theorem zm_ok_40 : zmP 40 := ⟨⟨lwm_3 (j := 103) rfl, rfl⟩, ⟨lwm_1 (j := 2) rfl, rfl⟩, ⟨lwm_3 (j := 101) rfl, rfl⟩, ⟨lwm_3 (j := 102) rfl, rfl⟩, ⟨by decide +kernel, by decide +kernel, by decide +kernel⟩, by decide +kernel, rfl, by decide +kernel⟩
theorem zm_ok_41 : zmP 41 := ⟨⟨lwm_3 (j := 175) rfl, rfl⟩, ⟨lwm_1 (j := 2) rfl, rfl⟩, ⟨lwm_3 (j := 173) rfl, rfl⟩, ⟨lwm_3 (j := 174) rfl, rfl⟩, ⟨by decide +kernel, by decide +kernel, by decide +kernel⟩, by decide +kernel, rfl, by decide +kernel⟩
theorem zm_ok_42 : zmP 42 := ⟨⟨lwm_3 (j := 110) rfl, rfl⟩, ⟨lwm_1 (j := 2) rfl, rfl⟩, ⟨lwm_3 (j := 108) rfl, rfl⟩, ⟨lwm_3 (j := 109) rfl, rfl⟩, ⟨by decide +kernel, by decide +kernel, by decide +kernel⟩, by decide +kernel, rfl, by decide +kernel⟩
theorem zm_ok_43 : zmP 43 := ⟨⟨lwm_2 (j := 26) rfl, rfl⟩, ⟨lwm_1 (j := 2) rfl, rfl⟩, ⟨lwm_2 (j := 24) rfl, rfl⟩, ⟨lwm_2 (j := 25) rfl, rfl⟩, ⟨by decide +kernel, by decide +kernel, by decide +kernel⟩, by decide +kernel, rfl, by decide +kernel⟩
theorem zm_ok_44 : zmP 44 := ⟨⟨lwm_1 (j := 53) rfl, rfl⟩, ⟨lwm_1 (j := 4) rfl, rfl⟩, ⟨lwm_1 (j := 52) rfl, rfl⟩, trivial, ⟨by decide +kernel, by decide +kernel, by decide +kernel⟩, by decide +kernel, rfl, by decide +kernel⟩
theorem zm_ok_45 : zmP 45 := ⟨⟨lwm_3 (j := 20) rfl, rfl⟩, ⟨lwm_1 (j := 4) rfl, rfl⟩, ⟨lwm_3 (j := 18) rfl, rfl⟩, ⟨lwm_3 (j := 19) rfl, rfl⟩, ⟨by decide +kernel, by decide +kernel, by decide +kernel⟩, by decide +kernel, rfl, by decide +kernel⟩
theorem zm_ok_46 : zmP 46 := ⟨⟨lwm_3 (j := 16) rfl, rfl⟩, ⟨lwm_1 (j := 4) rfl, rfl⟩, ⟨lwm_3 (j := 14) rfl, rfl⟩, ⟨lwm_3 (j := 15) rfl, rfl⟩, ⟨by decide +kernel, by decide +kernel, by decide +kernel⟩, by decide +kernel, rfl, by decide +kernel⟩
theorem zm_ok_47 : zmP 47 := ⟨⟨lwm_3 (j := 24) rfl, rfl⟩, ⟨lwm_1 (j := 4) rfl, rfl⟩, ⟨lwm_3 (j := 22) rfl, rfl⟩, ⟨lwm_3 (j := 23) rfl, rfl⟩, ⟨by decide +kernel, by decide +kernel, by decide +kernel⟩, by decide +kernel, rfl, by decide +kernel⟩
theorem zm_ok_48 : zmP 48 := ⟨⟨lwm_3 (j := 171) rfl, rfl⟩, ⟨lwm_1 (j := 4) rfl, rfl⟩, ⟨lwm_3 (j := 169) rfl, rfl⟩, ⟨lwm_3 (j := 170) rfl, rfl⟩, ⟨by decide +kernel, by decide +kernel, by decide +kernel⟩, by decide +kernel, rfl, by decide +kernel⟩
theorem zm_ok_49 : zmP 49 := ⟨⟨lwm_3 (j := 185) rfl, rfl⟩, ⟨lwm_1 (j := 4) rfl, rfl⟩, ⟨lwm_3 (j := 183) rfl, rfl⟩, ⟨lwm_3 (j := 184) rfl, rfl⟩, ⟨by decide +kernel, by decide +kernel, by decide +kernel⟩, by decide +kernel, rfl, by decide +kernel⟩
theorem zm_ok_50 : zmP 50 := ⟨⟨lwm_2 (j := 213) rfl, rfl⟩, ⟨lwm_1 (j := 4) rfl, rfl⟩, ⟨lwm_2 (j := 211) rfl, rfl⟩, ⟨lwm_2 (j := 212) rfl, rfl⟩, ⟨by decide +kernel, by decide +kernel, by decide +kernel⟩, by decide +kernel, rfl, by decide +kernel⟩
theorem zm_ok_51 : zmP 51 := ⟨⟨lwm_2 (j := 220) rfl, rfl⟩, ⟨lwm_1 (j := 4) rfl, rfl⟩, ⟨lwm_2 (j := 219) rfl, rfl⟩, ⟨lwm_0 (j := 4) rfl, rfl⟩, ⟨by decide +kernel, by decide +kernel, by decide +kernel⟩, by decide +kernel, rfl, by decide +kernel⟩
theorem zm_ok_52 : zmP 52 := ⟨⟨lwm_2 (j := 239) rfl, rfl⟩, ⟨lwm_1 (j := 4) rfl, rfl⟩, ⟨lwm_2 (j := 238) rfl, rfl⟩, ⟨lwm_0 (j := 6) rfl, rfl⟩, ⟨by decide +kernel, by decide +kernel, by decide +kernel⟩, by decide +kernel, rfl, by decide +kernel⟩
theorem zm_ok_53 : zmP 53 := ⟨⟨lwm_2 (j := 229) rfl, rfl⟩, ⟨lwm_1 (j := 4) rfl, rfl⟩, ⟨lwm_2 (j := 228) rfl, rfl⟩, ⟨lwm_0 (j := 5) rfl, rfl⟩, ⟨by decide +kernel, by decide +kernel, by decide +kernel⟩, by decide +kernel, rfl, by decide +kernel⟩
theorem zm_ok_54 : zmP 54 := ⟨⟨lwm_2 (j := 47) rfl, rfl⟩, ⟨lwm_1 (j := 4) rfl, rfl⟩, ⟨lwm_2 (j := 45) rfl, rfl⟩, ⟨lwm_2 (j := 46) rfl, rfl⟩, ⟨by decide +kernel, by decide +kernel, by decide +kernel⟩, by decide +kernel, rfl, by decide +kernel⟩
theorem zm_ok_55 : zmP 55 := ⟨⟨lwm_1 (j := 59) rfl, rfl⟩, ⟨lwm_1 (j := 5) rfl, rfl⟩, ⟨lwm_1 (j := 58) rfl, rfl⟩, trivial, ⟨by decide +kernel, by decide +kernel, by decide +kernel⟩, by decide +kernel, rfl, by decide +kernel⟩
theorem zm_ok_56 : zmP 56 := ⟨⟨lwm_2 (j := 123) rfl, rfl⟩, ⟨lwm_1 (j := 5) rfl, rfl⟩, ⟨lwm_2 (j := 121) rfl, rfl⟩, ⟨lwm_2 (j := 122) rfl, rfl⟩, ⟨by decide +kernel, by decide +kernel, by decide +kernel⟩, by decide +kernel, rfl, by decide +kernel⟩
theorem zm_ok_57 : zmP 57 := ⟨⟨lwm_2 (j := 77) rfl, rfl⟩, ⟨lwm_1 (j := 5) rfl, rfl⟩, ⟨lwm_2 (j := 75) rfl, rfl⟩, ⟨lwm_2 (j := 76) rfl, rfl⟩, ⟨by decide +kernel, by decide +kernel, by decide +kernel⟩, by decide +kernel, rfl, by decide +kernel⟩
theorem zm_ok_58 : zmP 58 := ⟨⟨lwm_2 (j := 51) rfl, rfl⟩, ⟨lwm_1 (j := 5) rfl, rfl⟩, ⟨lwm_2 (j := 49) rfl, rfl⟩, ⟨lwm_2 (j := 50) rfl, rfl⟩, ⟨by decide +kernel, by decide +kernel, by decide +kernel⟩, by decide +kernel, rfl, by decide +kernel⟩
theorem zm_ok_59 : zmP 59 := ⟨⟨lwm_2 (j := 203) rfl, rfl⟩, ⟨lwm_1 (j := 5) rfl, rfl⟩, ⟨lwm_2 (j := 201) rfl, rfl⟩, ⟨lwm_2 (j := 202) rfl, rfl⟩, ⟨by decide +kernel, by decide +kernel, by decide +kernel⟩, by decide +kernel, rfl, by decide +kernel⟩
theorem zm_ok_60 : zmP 60 := ⟨⟨lwm_1 (j := 17) rfl, rfl⟩, ⟨lwm_1 (j := 1) rfl, rfl⟩, ⟨lwm_1 (j := 16) rfl, rfl⟩, trivial, ⟨by decide +kernel, by decide +kernel, by decide +kernel⟩, by decide +kernel, rfl, by decide +kernel⟩
theorem zm_ok_61 : zmP 61 := ⟨⟨lwm_2 (j := 10) rfl, rfl⟩, ⟨lwm_1 (j := 1) rfl, rfl⟩, ⟨lwm_2 (j := 8) rfl, rfl⟩, ⟨lwm_2 (j := 9) rfl, rfl⟩, ⟨by decide +kernel, by decide +kernel, by decide +kernel⟩, by decide +kernel, rfl, by decide +kernel⟩
theorem zm_ok_62 : zmP 62 := ⟨⟨lwm_2 (j := 60) rfl, rfl⟩, ⟨lwm_1 (j := 1) rfl, rfl⟩, ⟨lwm_2 (j := 58) rfl, rfl⟩, ⟨lwm_2 (j := 59) rfl, rfl⟩, ⟨by decide +kernel, by decide +kernel, by decide +kernel⟩, by decide +kernel, rfl, by decide +kernel⟩
theorem zm_ok_63 : zmP 63 := ⟨⟨lwm_2 (j := 140) rfl, rfl⟩, ⟨lwm_1 (j := 1) rfl, rfl⟩, ⟨lwm_2 (j := 138) rfl, rfl⟩, ⟨lwm_2 (j := 139) rfl, rfl⟩, ⟨by decide +kernel, by decide +kernel, by decide +kernel⟩, by decide +kernel, rfl, by decide +kernel⟩
theorem zm_ok_64 : zmP 64 := ⟨⟨lwm_2 (j := 162) rfl, rfl⟩, ⟨lwm_1 (j := 1) rfl, rfl⟩, ⟨lwm_2 (j := 160) rfl, rfl⟩, ⟨lwm_2 (j := 161) rfl, rfl⟩, ⟨by decide +kernel, by decide +kernel, by decide +kernel⟩, by decide +kernel, rfl, by decide +kernel⟩
theorem zm_ok_65 : zmP 65 := ⟨⟨lwm_2 (j := 170) rfl, rfl⟩, ⟨lwm_1 (j := 1) rfl, rfl⟩, ⟨lwm_2 (j := 168) rfl, rfl⟩, ⟨lwm_2 (j := 169) rfl, rfl⟩, ⟨by decide +kernel, by decide +kernel, by decide +kernel⟩, by decide +kernel, rfl, by decide +kernel⟩
theorem zm_ok_66 : zmP 66 := ⟨⟨lwm_3 (j := 8) rfl, rfl⟩, ⟨lwm_1 (j := 1) rfl, rfl⟩, ⟨lwm_3 (j := 6) rfl, rfl⟩, ⟨lwm_3 (j := 7) rfl, rfl⟩, ⟨by decide +kernel, by decide +kernel, by decide +kernel⟩, by decide +kernel, rfl, by decide +kernel⟩
theorem zm_ok_67 : zmP 67 := ⟨⟨lwm_3 (j := 12) rfl, rfl⟩, ⟨lwm_1 (j := 1) rfl, rfl⟩, ⟨lwm_3 (j := 10) rfl, rfl⟩, ⟨lwm_3 (j := 11) rfl, rfl⟩, ⟨by decide +kernel, by decide +kernel, by decide +kernel⟩, by decide +kernel, rfl, by decide +kernel⟩
theorem zm_ok_68 : zmP 68 := ⟨⟨lwm_3 (j := 90) rfl, rfl⟩, ⟨lwm_1 (j := 1) rfl, rfl⟩, ⟨lwm_3 (j := 88) rfl, rfl⟩, ⟨lwm_3 (j := 89) rfl, rfl⟩, ⟨by decide +kernel, by decide +kernel, by decide +kernel⟩, by decide +kernel, rfl, by decide +kernel⟩
theorem zm_ok_69 : zmP 69 := ⟨⟨lwm_1 (j := 31) rfl, rfl⟩, ⟨lwm_1 (j := 3) rfl, rfl⟩, ⟨lwm_1 (j := 30) rfl, rfl⟩, trivial, ⟨by decide +kernel, by decide +kernel, by decide +kernel⟩, by decide +kernel, rfl, by decide +kernel⟩
theorem zm_ok_70 : zmP 70 := ⟨⟨lwm_3 (j := 167) rfl, rfl⟩, ⟨lwm_1 (j := 1) rfl, rfl⟩, ⟨lwm_3 (j := 165) rfl, rfl⟩, ⟨lwm_3 (j := 166) rfl, rfl⟩, ⟨by decide +kernel, by decide +kernel, by decide +kernel⟩, by decide +kernel, rfl, by decide +kernel⟩
theorem zm_ok_71 : zmP 71 := ⟨⟨lwm_3 (j := 125) rfl, rfl⟩, ⟨lwm_1 (j := 1) rfl, rfl⟩, ⟨lwm_3 (j := 123) rfl, rfl⟩, ⟨lwm_3 (j := 124) rfl, rfl⟩, ⟨by decide +kernel, by decide +kernel, by decide +kernel⟩, by decide +kernel, rfl, by decide +kernel⟩
theorem zm_ok_72 : zmP 72 := ⟨⟨lwm_3 (j := 130) rfl, rfl⟩, ⟨lwm_1 (j := 1) rfl, rfl⟩, ⟨lwm_3 (j := 128) rfl, rfl⟩, ⟨lwm_3 (j := 129) rfl, rfl⟩, ⟨by decide +kernel, by decide +kernel, by decide +kernel⟩, by decide +kernel, rfl, by decide +kernel⟩
theorem zm_ok_73 : zmP 73 := ⟨⟨lwm_3 (j := 163) rfl, rfl⟩, ⟨lwm_1 (j := 1) rfl, rfl⟩, ⟨lwm_3 (j := 161) rfl, rfl⟩, ⟨lwm_3 (j := 162) rfl, rfl⟩, ⟨by decide +kernel, by decide +kernel, by decide +kernel⟩, by decide +kernel, rfl, by decide +kernel⟩
theorem zm_ok_74 : zmP 74 := ⟨⟨lwm_3 (j := 28) rfl, rfl⟩, ⟨lwm_1 (j := 1) rfl, rfl⟩, ⟨lwm_3 (j := 26) rfl, rfl⟩, ⟨lwm_3 (j := 27) rfl, rfl⟩, ⟨by decide +kernel, by decide +kernel, by decide +kernel⟩, by decide +kernel, rfl, by decide +kernel⟩
theorem zm_ok_75 : zmP 75 := ⟨⟨lwm_3 (j := 115) rfl, rfl⟩, ⟨lwm_1 (j := 1) rfl, rfl⟩, ⟨lwm_3 (j := 113) rfl, rfl⟩, ⟨lwm_3 (j := 114) rfl, rfl⟩, ⟨by decide +kernel, by decide +kernel, by decide +kernel⟩, by decide +kernel, rfl, by decide +kernel⟩
theorem zm_ok_76 : zmP 76 := ⟨⟨lwm_1 (j := 31) rfl, rfl⟩, ⟨lwm_1 (j := 3) rfl, rfl⟩, ⟨lwm_1 (j := 30) rfl, rfl⟩, trivial, ⟨by decide +kernel, by decide +kernel, by decide +kernel⟩, by decide +kernel, rfl, by decide +kernel⟩
theorem zm_ok_77 : zmP 77 := ⟨⟨lwm_1 (j := 31) rfl, rfl⟩, ⟨lwm_1 (j := 3) rfl, rfl⟩, ⟨lwm_1 (j := 30) rfl, rfl⟩, trivial, ⟨by decide +kernel, by decide +kernel, by decide +kernel⟩, by decide +kernel, rfl, by decide +kernel⟩
theorem zm_ok_78 : zmP 78 := ⟨⟨lwm_1 (j := 31) rfl, rfl⟩, ⟨lwm_1 (j := 3) rfl, rfl⟩, ⟨lwm_1 (j := 30) rfl, rfl⟩, trivial, ⟨by decide +kernel, by decide +kernel, by decide +kernel⟩, by decide +kernel, rfl, by decide +kernel⟩
theorem zm_ok_79 : zmP 79 := ⟨⟨lwm_3 (j := 32) rfl, rfl⟩, ⟨lwm_1 (j := 1) rfl, rfl⟩, ⟨lwm_3 (j := 30) rfl, rfl⟩, ⟨lwm_3 (j := 31) rfl, rfl⟩, ⟨by decide +kernel, by decide +kernel, by decide +kernel⟩, by decide +kernel, rfl, by decide +kernel⟩
theorem zm_ok_80 : zmP 80 := ⟨⟨lwm_3 (j := 44) rfl, rfl⟩, ⟨lwm_1 (j := 1) rfl, rfl⟩, ⟨lwm_3 (j := 42) rfl, rfl⟩, ⟨lwm_3 (j := 43) rfl, rfl⟩, ⟨by decide +kernel, by decide +kernel, by decide +kernel⟩, by decide +kernel, rfl, by decide +kernel⟩
theorem zm_ok_81 : zmP 81 := ⟨⟨lwm_1 (j := 31) rfl, rfl⟩, ⟨lwm_1 (j := 3) rfl, rfl⟩, ⟨lwm_1 (j := 30) rfl, rfl⟩, trivial, ⟨by decide +kernel, by decide +kernel, by decide +kernel⟩, by decide +kernel, rfl, by decide +kernel⟩
theorem zm_ok_82 : zmP 82 := ⟨⟨lwm_1 (j := 31) rfl, rfl⟩, ⟨lwm_1 (j := 3) rfl, rfl⟩, ⟨lwm_1 (j := 30) rfl, rfl⟩, trivial, ⟨by decide +kernel, by decide +kernel, by decide +kernel⟩, by decide +kernel, rfl, by decide +kernel⟩
theorem zm_ok_83 : zmP 83 := ⟨⟨lwm_1 (j := 31) rfl, rfl⟩, ⟨lwm_1 (j := 3) rfl, rfl⟩, ⟨lwm_1 (j := 30) rfl, rfl⟩, trivial, ⟨by decide +kernel, by decide +kernel, by decide +kernel⟩, by decide +kernel, rfl, by decide +kernel⟩
theorem zm_ok_84 : zmP 84 := ⟨⟨lwm_1 (j := 31) rfl, rfl⟩, ⟨lwm_1 (j := 3) rfl, rfl⟩, ⟨lwm_1 (j := 30) rfl, rfl⟩, trivial, ⟨by decide +kernel, by decide +kernel, by decide +kernel⟩, by decide +kernel, rfl, by decide +kernel⟩
theorem zm_ok_85 : zmP 85 := ⟨⟨lwm_2 (j := 64) rfl, rfl⟩, ⟨lwm_1 (j := 1) rfl, rfl⟩, ⟨lwm_2 (j := 63) rfl, rfl⟩, ⟨lwm_0 (j := 0) rfl, rfl⟩, ⟨by decide +kernel, by decide +kernel, by decide +kernel⟩, by decide +kernel, rfl, by decide +kernel⟩
theorem zm_ok_86 : zmP 86 := ⟨⟨lwm_2 (j := 175) rfl, rfl⟩, ⟨lwm_1 (j := 1) rfl, rfl⟩, ⟨lwm_2 (j := 174) rfl, rfl⟩, ⟨lwm_0 (j := 1) rfl, rfl⟩, ⟨by decide +kernel, by decide +kernel, by decide +kernel⟩, by decide +kernel, rfl, by decide +kernel⟩
theorem zm_ok_87 : zmP 87 := ⟨⟨lwm_3 (j := 35) rfl, rfl⟩, ⟨lwm_1 (j := 1) rfl, rfl⟩, ⟨lwm_3 (j := 34) rfl, rfl⟩, trivial, ⟨by decide +kernel, by decide +kernel, by decide +kernel⟩, by decide +kernel, rfl, by decide +kernel⟩
theorem zm_ok_88 : zmP 88 := ⟨⟨lwm_2 (j := 147) rfl, rfl⟩, ⟨lwm_1 (j := 1) rfl, rfl⟩, ⟨lwm_2 (j := 146) rfl, rfl⟩, trivial, ⟨by decide +kernel, by decide +kernel, by decide +kernel⟩, by decide +kernel, rfl, by decide +kernel⟩
theorem zm_ok_89 : zmP 89 := ⟨⟨lwm_3 (j := 2) rfl, rfl⟩, ⟨lwm_1 (j := 1) rfl, rfl⟩, ⟨lwm_3 (j := 1) rfl, rfl⟩, trivial, ⟨by decide +kernel, by decide +kernel, by decide +kernel⟩, by decide +kernel, rfl, by decide +kernel⟩
theorem zm_ok_90 : zmP 90 := ⟨⟨lwm_2 (j := 155) rfl, rfl⟩, ⟨lwm_1 (j := 1) rfl, rfl⟩, ⟨lwm_2 (j := 154) rfl, rfl⟩, trivial, ⟨by decide +kernel, by decide +kernel, by decide +kernel⟩, by decide +kernel, rfl, by decide +kernel⟩
theorem zm_ok_91 : zmP 91 := ⟨⟨lwm_2 (j := 104) rfl, rfl⟩, ⟨lwm_1 (j := 1) rfl, rfl⟩, ⟨lwm_2 (j := 103) rfl, rfl⟩, trivial, ⟨by decide +kernel, by decide +kernel, by decide +kernel⟩, by decide +kernel, rfl, by decide +kernel⟩
theorem zm_ok_92 : zmP 92 := ⟨⟨lwm_2 (j := 83) rfl, rfl⟩, ⟨lwm_1 (j := 1) rfl, rfl⟩, ⟨lwm_2 (j := 82) rfl, rfl⟩, trivial, ⟨by decide +kernel, by decide +kernel, by decide +kernel⟩, by decide +kernel, rfl, by decide +kernel⟩
theorem zm_ok_93 : zmP 93 := ⟨⟨lwm_2 (j := 193) rfl, rfl⟩, ⟨lwm_1 (j := 1) rfl, rfl⟩, ⟨lwm_2 (j := 192) rfl, rfl⟩, trivial, ⟨by decide +kernel, by decide +kernel, by decide +kernel⟩, by decide +kernel, rfl, by decide +kernel⟩
theorem zm_ok_94 : zmP 94 := ⟨⟨lwm_2 (j := 224) rfl, rfl⟩, ⟨lwm_1 (j := 1) rfl, rfl⟩, ⟨lwm_2 (j := 223) rfl, rfl⟩, trivial, ⟨by decide +kernel, by decide +kernel, by decide +kernel⟩, by decide +kernel, rfl, by decide +kernel⟩
theorem zm_ok_95 : zmP 95 := ⟨⟨lwm_2 (j := 232) rfl, rfl⟩, ⟨lwm_1 (j := 1) rfl, rfl⟩, ⟨lwm_2 (j := 231) rfl, rfl⟩, trivial, ⟨by decide +kernel, by decide +kernel, by decide +kernel⟩, by decide +kernel, rfl, by decide +kernel⟩
theorem zm_ok_96 : zmP 96 := ⟨⟨lwm_2 (j := 15) rfl, rfl⟩, ⟨lwm_1 (j := 1) rfl, rfl⟩, ⟨lwm_2 (j := 14) rfl, rfl⟩, trivial, ⟨by decide +kernel, by decide +kernel, by decide +kernel⟩, by decide +kernel, rfl, by decide +kernel⟩
theorem zm_ok_97 : zmP 97 := ⟨⟨lwm_2 (j := 130) rfl, rfl⟩, ⟨lwm_1 (j := 1) rfl, rfl⟩, ⟨lwm_2 (j := 129) rfl, rfl⟩, trivial, ⟨by decide +kernel, by decide +kernel, by decide +kernel⟩, by decide +kernel, rfl, by decide +kernel⟩
theorem zm_ok_98 : zmP 98 := ⟨⟨lwm_2 (j := 56) rfl, rfl⟩, ⟨lwm_1 (j := 1) rfl, rfl⟩, ⟨lwm_2 (j := 55) rfl, rfl⟩, trivial, ⟨by decide +kernel, by decide +kernel, by decide +kernel⟩, by decide +kernel, rfl, by decide +kernel⟩
theorem zm_ok_99 : zmP 99 := ⟨⟨lwm_2 (j := 80) rfl, rfl⟩, ⟨lwm_1 (j := 1) rfl, rfl⟩, ⟨lwm_2 (j := 79) rfl, rfl⟩, trivial, ⟨by decide +kernel, by decide +kernel, by decide +kernel⟩, by decide +kernel, rfl, by decide +kernel⟩
theorem zm_ok_100 : zmP 100 := ⟨⟨lwm_2 (j := 29) rfl, rfl⟩, ⟨lwm_1 (j := 1) rfl, rfl⟩, ⟨lwm_2 (j := 28) rfl, rfl⟩, trivial, ⟨by decide +kernel, by decide +kernel, by decide +kernel⟩, by decide +kernel, rfl, by decide +kernel⟩
theorem zm_ok_101 : zmP 101 := ⟨⟨lwm_2 (j := 43) rfl, rfl⟩, ⟨lwm_1 (j := 1) rfl, rfl⟩, ⟨lwm_2 (j := 42) rfl, rfl⟩, trivial, ⟨by decide +kernel, by decide +kernel, by decide +kernel⟩, by decide +kernel, rfl, by decide +kernel⟩
theorem zm_ok_102 : zmP 102 := ⟨⟨lwm_3 (j := 47) rfl, rfl⟩, ⟨lwm_1 (j := 0) rfl, rfl⟩, ⟨lwm_3 (j := 46) rfl, rfl⟩, trivial, ⟨by decide +kernel, by decide +kernel, by decide +kernel⟩, by decide +kernel, rfl, by decide +kernel⟩
theorem zm_ok_103 : zmP 103 := ⟨⟨lwm_3 (j := 52) rfl, rfl⟩, ⟨lwm_1 (j := 0) rfl, rfl⟩, ⟨lwm_3 (j := 51) rfl, rfl⟩, trivial, ⟨by decide +kernel, by decide +kernel, by decide +kernel⟩, by decide +kernel, rfl, by decide +kernel⟩
theorem zm_ok_104 : zmP 104 := ⟨⟨lwm_3 (j := 71) rfl, rfl⟩, ⟨lwm_1 (j := 0) rfl, rfl⟩, ⟨lwm_3 (j := 70) rfl, rfl⟩, trivial, ⟨by decide +kernel, by decide +kernel, by decide +kernel⟩, by decide +kernel, rfl, by decide +kernel⟩
theorem zm_ok_105 : zmP 105 := ⟨⟨lwm_3 (j := 80) rfl, rfl⟩, ⟨lwm_1 (j := 0) rfl, rfl⟩, ⟨lwm_3 (j := 79) rfl, rfl⟩, trivial, ⟨by decide +kernel, by decide +kernel, by decide +kernel⟩, by decide +kernel, rfl, by decide +kernel⟩
theorem zm_ok_106 : zmP 106 := ⟨⟨lwm_3 (j := 68) rfl, rfl⟩, ⟨lwm_1 (j := 0) rfl, rfl⟩, ⟨lwm_3 (j := 67) rfl, rfl⟩, trivial, ⟨by decide +kernel, by decide +kernel, by decide +kernel⟩, by decide +kernel, rfl, by decide +kernel⟩
theorem zm_ok_107 : zmP 107 := ⟨⟨lwm_3 (j := 77) rfl, rfl⟩, ⟨lwm_1 (j := 0) rfl, rfl⟩, ⟨lwm_3 (j := 76) rfl, rfl⟩, trivial, ⟨by decide +kernel, by decide +kernel, by decide +kernel⟩, by decide +kernel, rfl, by decide +kernel⟩
theorem zm_ok_108 : zmP 108 := ⟨⟨lwm_3 (j := 86) rfl, rfl⟩, ⟨lwm_1 (j := 0) rfl, rfl⟩, ⟨lwm_3 (j := 85) rfl, rfl⟩, trivial, ⟨by decide +kernel, by decide +kernel, by decide +kernel⟩, by decide +kernel, rfl, by decide +kernel⟩
theorem zm_ok_109 : zmP 109 := ⟨⟨lwm_3 (j := 65) rfl, rfl⟩, ⟨lwm_1 (j := 0) rfl, rfl⟩, ⟨lwm_3 (j := 64) rfl, rfl⟩, trivial, ⟨by decide +kernel, by decide +kernel, by decide +kernel⟩, by decide +kernel, rfl, by decide +kernel⟩
theorem zm_ok_110 : zmP 110 := ⟨⟨lwm_3 (j := 62) rfl, rfl⟩, ⟨lwm_1 (j := 0) rfl, rfl⟩, ⟨lwm_3 (j := 61) rfl, rfl⟩, trivial, ⟨by decide +kernel, by decide +kernel, by decide +kernel⟩, by decide +kernel, rfl, by decide +kernel⟩
theorem zm_ok_111 : zmP 111 := ⟨⟨lwm_3 (j := 74) rfl, rfl⟩, ⟨lwm_1 (j := 0) rfl, rfl⟩, ⟨lwm_3 (j := 73) rfl, rfl⟩, trivial, ⟨by decide +kernel, by decide +kernel, by decide +kernel⟩, by decide +kernel, rfl, by decide +kernel⟩
theorem zm_ok_112 : zmP 112 := ⟨⟨lwm_3 (j := 59) rfl, rfl⟩, ⟨lwm_1 (j := 0) rfl, rfl⟩, ⟨lwm_3 (j := 58) rfl, rfl⟩, trivial, ⟨by decide +kernel, by decide +kernel, by decide +kernel⟩, by decide +kernel, rfl, by decide +kernel⟩
theorem zm_ok_113 : zmP 113 := ⟨⟨lwm_3 (j := 56) rfl, rfl⟩, ⟨lwm_1 (j := 0) rfl, rfl⟩, ⟨lwm_3 (j := 55) rfl, rfl⟩, trivial, ⟨by decide +kernel, by decide +kernel, by decide +kernel⟩, by decide +kernel, rfl, by decide +kernel⟩
theorem zm_ok_114 : zmP 114 := ⟨⟨lwm_3 (j := 118) rfl, rfl⟩, ⟨lwm_1 (j := 0) rfl, rfl⟩, ⟨lwm_3 (j := 117) rfl, rfl⟩, trivial, ⟨by decide +kernel, by decide +kernel, by decide +kernel⟩, by decide +kernel, rfl, by decide +kernel⟩
theorem zm_ok_115 : zmP 115 := ⟨⟨lwm_3 (j := 121) rfl, rfl⟩, ⟨lwm_1 (j := 0) rfl, rfl⟩, ⟨lwm_3 (j := 120) rfl, rfl⟩, trivial, ⟨by decide +kernel, by decide +kernel, by decide +kernel⟩, by decide +kernel, rfl, by decide +kernel⟩
theorem zm_ok_116 : zmP 116 := ⟨⟨lwm_3 (j := 83) rfl, rfl⟩, ⟨lwm_1 (j := 0) rfl, rfl⟩, ⟨lwm_3 (j := 82) rfl, rfl⟩, trivial, ⟨by decide +kernel, by decide +kernel, by decide +kernel⟩, by decide +kernel, rfl, by decide +kernel⟩
theorem zm_ok_117 : zmP 117 := ⟨⟨lwm_3 (j := 189) rfl, rfl⟩, ⟨lwm_1 (j := 0) rfl, rfl⟩, ⟨lwm_3 (j := 188) rfl, rfl⟩, trivial, ⟨by decide +kernel, by decide +kernel, by decide +kernel⟩, by decide +kernel, rfl, by decide +kernel⟩
theorem zm_ok_118 : zmP 118 := ⟨⟨lwm_3 (j := 192) rfl, rfl⟩, ⟨lwm_1 (j := 0) rfl, rfl⟩, ⟨lwm_3 (j := 191) rfl, rfl⟩, trivial, ⟨by decide +kernel, by decide +kernel, by decide +kernel⟩, by decide +kernel, rfl, by decide +kernel⟩
theorem zm_ok_119 : zmP 119 := ⟨⟨lwm_3 (j := 195) rfl, rfl⟩, ⟨lwm_1 (j := 0) rfl, rfl⟩, ⟨lwm_3 (j := 194) rfl, rfl⟩, trivial, ⟨by decide +kernel, by decide +kernel, by decide +kernel⟩, by decide +kernel, rfl, by decide +kernel⟩
theorem zm_ok_to_20 : ∀ k, k < 20 → zmP k := lt_s (lt_s (lt_s (lt_s (lt_s (lt_s (lt_s (lt_s (lt_s (lt_s (lt_s (lt_s (lt_s (lt_s (lt_s (lt_s (lt_s (lt_s (lt_s (lt_s (lt_0) zm_ok_0) zm_ok_1) zm_ok_2) zm_ok_3) zm_ok_4) zm_ok_5) zm_ok_6) zm_ok_7) zm_ok_8) zm_ok_9) zm_ok_10) zm_ok_11) zm_ok_12) zm_ok_13) zm_ok_14) zm_ok_15) zm_ok_16) zm_ok_17) zm_ok_18) zm_ok_19
theorem zm_ok_to_40 : ∀ k, k < 40 → zmP k := lt_s (lt_s (lt_s (lt_s (lt_s (lt_s (lt_s (lt_s (lt_s (lt_s (lt_s (lt_s (lt_s (lt_s (lt_s (lt_s (lt_s (lt_s (lt_s (lt_s (zm_ok_to_20) zm_ok_20) zm_ok_21) zm_ok_22) zm_ok_23) zm_ok_24) zm_ok_25) zm_ok_26) zm_ok_27) zm_ok_28) zm_ok_29) zm_ok_30) zm_ok_31) zm_ok_32) zm_ok_33) zm_ok_34) zm_ok_35) zm_ok_36) zm_ok_37) zm_ok_38) zm_ok_39
theorem zm_ok_to_60 : ∀ k, k < 60 → zmP k := lt_s (lt_s (lt_s (lt_s (lt_s (lt_s (lt_s (lt_s (lt_s (lt_s (lt_s (lt_s (lt_s (lt_s (lt_s (lt_s (lt_s (lt_s (lt_s (lt_s (zm_ok_to_40) zm_ok_40) zm_ok_41) zm_ok_42) zm_ok_43) zm_ok_44) zm_ok_45) zm_ok_46) zm_ok_47) zm_ok_48) zm_ok_49) zm_ok_50) zm_ok_51) zm_ok_52) zm_ok_53) zm_ok_54) zm_ok_55) zm_ok_56) zm_ok_57) zm_ok_58) zm_ok_59
theorem zm_ok_to_80 : ∀ k, k < 80 → zmP k := lt_s (lt_s (lt_s (lt_s (lt_s (lt_s (lt_s (lt_s (lt_s (lt_s (lt_s (lt_s (lt_s (lt_s (lt_s (lt_s (lt_s (lt_s (lt_s (lt_s (zm_ok_to_60) zm_ok_60) zm_ok_61) zm_ok_62) zm_ok_63) zm_ok_64) zm_ok_65) zm_ok_66) zm_ok_67) zm_ok_68) zm_ok_69) zm_ok_70) zm_ok_71) zm_ok_72) zm_ok_73) zm_ok_74) zm_ok_75) zm_ok_76) zm_ok_77) zm_ok_78) zm_ok_79
theorem zm_ok_to_100 : ∀ k, k < 100 → zmP k := lt_s (lt_s (lt_s (lt_s (lt_s (lt_s (lt_s (lt_s (lt_s (lt_s (lt_s (lt_s (lt_s (lt_s (lt_s (lt_s (lt_s (lt_s (lt_s (lt_s (zm_ok_to_80) zm_ok_80) zm_ok_81) zm_ok_82) zm_ok_83) zm_ok_84) zm_ok_85) zm_ok_86) zm_ok_87) zm_ok_88) zm_ok_89) zm_ok_90) zm_ok_91) zm_ok_92) zm_ok_93) zm_ok_94) zm_ok_95) zm_ok_96) zm_ok_97) zm_ok_98) zm_ok_99
theorem zm_ok_to_120 : ∀ k, k < 120 → zmP k := lt_s (lt_s (lt_s (lt_s (lt_s (lt_s (lt_s (lt_s (lt_s (lt_s (lt_s (lt_s (lt_s (lt_s (lt_s (lt_s (lt_s (lt_s (lt_s (lt_s (zm_ok_to_100) zm_ok_100) zm_ok_101) zm_ok_102) zm_ok_103) zm_ok_104) zm_ok_105) zm_ok_106) zm_ok_107) zm_ok_108) zm_ok_109) zm_ok_110) zm_ok_111) zm_ok_112) zm_ok_113) zm_ok_114) zm_ok_115) zm_ok_116) zm_ok_117) zm_ok_118) zm_ok_119
theorem zm_ok : ∀ k, k < 120 → zmP k := zm_ok_to_120
theorem zlaw_y : zcn (zow 120) = (zy 120).cls := rfl
theorem zd_0 : ∀ q ∈ zc_0, decode cX0_init q.1 = .ok (q.2.1, q.2.2) := by decide +kernel
theorem zd_1 : ∀ q ∈ zc_1, decode cX0_has q.1 = .ok (q.2.1, q.2.2) := by decide +kernel
theorem zd_2 : ∀ q ∈ zc_2, decode cX0_codeOf q.1 = .ok (q.2.1, q.2.2) := by decide +kernel
theorem zd_3 : ∀ q ∈ zc_3, decode cX0_wordAt q.1 = .ok (q.2.1, q.2.2) := by decide +kernel
theorem zd_4 : ∀ q ∈ zc_4, decode cX0_wordsOf q.1 = .ok (q.2.1, q.2.2) := by decide +kernel
theorem zd_5 : ∀ q ∈ zc_5, decode cX0_lettersOf q.1 = .ok (q.2.1, q.2.2) := by decide +kernel
theorem zd_6 : ∀ q ∈ zc_6, decode cX0_init q.1 = .ok (q.2.1, q.2.2) := by decide +kernel
theorem zd_7 : ∀ q ∈ zc_7, decode cX0_means q.1 = .ok (q.2.1, q.2.2) := by decide +kernel
theorem zd_8 : ∀ q ∈ zc_8, decode cX0_find q.1 = .ok (q.2.1, q.2.2) := by decide +kernel
theorem zd_9 : ∀ q ∈ zc_9, decode cX0_leastFromOthers q.1 = .ok (q.2.1, q.2.2) := by decide +kernel
theorem zd_10 : ∀ q ∈ zc_10, decode cX0_leastDistance q.1 = .ok (q.2.1, q.2.2) := by decide +kernel
theorem zd_11 : ∀ q ∈ zc_11, decode cX0_append q.1 = .ok (q.2.1, q.2.2) := by decide +kernel
theorem zd_12 : ∀ q ∈ zc_12, decode cX0_remove q.1 = .ok (q.2.1, q.2.2) := by decide +kernel
theorem zd_13 : ∀ q ∈ zc_13, decode cX0_copyFrom q.1 = .ok (q.2.1, q.2.2) := by decide +kernel
theorem zd_14 : ∀ q ∈ zc_14, decode cX1_init q.1 = .ok (q.2.1, q.2.2) := by decide +kernel
theorem zd_15 : ∀ q ∈ zc_15, decode cX1_lookAt q.1 = .ok (q.2.1, q.2.2) := by decide +kernel
theorem zd_16 : ∀ q ∈ zc_16, decode cX1_markNear q.1 = .ok (q.2.1, q.2.2) := by decide +kernel
theorem zd_17 : ∀ q ∈ zc_17, decode cX1_lowestFrom q.1 = .ok (q.2.1, q.2.2) := by decide +kernel
theorem zd_18 : ∀ q ∈ zc_18, decode cX2_init q.1 = .ok (q.2.1, q.2.2) := by decide +kernel
theorem zd_19 : ∀ q ∈ zc_19, decode cX2_keep q.1 = .ok (q.2.1, q.2.2) := by decide +kernel
theorem zd_20 : ∀ q ∈ zc_20, decode cX0_init q.1 = .ok (q.2.1, q.2.2) := by decide +kernel
theorem zd_21 : ∀ q ∈ zc_21, decode cX3_init q.1 = .ok (q.2.1, q.2.2) := by decide +kernel
theorem zd_22 : ∀ q ∈ zc_22, decode cX3_append q.1 = .ok (q.2.1, q.2.2) := by decide +kernel
theorem zd_23 : ∀ q ∈ zc_23, decode cX3_firstFault q.1 = .ok (q.2.1, q.2.2) := by decide +kernel
theorem zd_24 : ∀ q ∈ zc_24, decode cX3_readInto q.1 = .ok (q.2.1, q.2.2) := by decide +kernel
theorem zd_25 : ∀ q ∈ zc_25, decode cX4_init q.1 = .ok (q.2.1, q.2.2) := by decide +kernel
theorem zd_26 : ∀ q ∈ zc_26, decode cX4_receive q.1 = .ok (q.2.1, q.2.2) := by decide +kernel
theorem zd_27 : ∀ q ∈ zc_27, decode cX4_isCodeWord q.1 = .ok (q.2.1, q.2.2) := by decide +kernel
theorem zd_28 : ∀ q ∈ zc_28, decode cX4_receiveCode q.1 = .ok (q.2.1, q.2.2) := by decide +kernel
theorem zd_29 : ∀ q ∈ zc_29, decode cX4_unlikeLetters q.1 = .ok (q.2.1, q.2.2) := by decide +kernel
theorem zd_30 : ∀ q ∈ zc_30, decode cX4_lastUnlike q.1 = .ok (q.2.1, q.2.2) := by decide +kernel
theorem zd_31 : ∀ q ∈ zc_31, decode cX4_receivePlain q.1 = .ok (q.2.1, q.2.2) := by decide +kernel
theorem zd_32 : ∀ q ∈ zc_32, decode cX5_init q.1 = .ok (q.2.1, q.2.2) := by decide +kernel
theorem zd_33 : ∀ q ∈ zc_33, decode cX5_plan q.1 = .ok (q.2.1, q.2.2) := by decide +kernel
theorem zd_34 : ∀ q ∈ zc_34, decode cX5_isNoWorse q.1 = .ok (q.2.1, q.2.2) := by decide +kernel
theorem zd_35 : ∀ q ∈ zc_35, decode cX5_choose q.1 = .ok (q.2.1, q.2.2) := by decide +kernel
theorem zd_36 : ∀ q ∈ zc_36, decode cX6_init q.1 = .ok (q.2.1, q.2.2) := by decide +kernel
theorem zd_37 : ∀ q ∈ zc_37, decode cX6_codeCost q.1 = .ok (q.2.1, q.2.2) := by decide +kernel
theorem zd_38 : ∀ q ∈ zc_38, decode cX6_apart q.1 = .ok (q.2.1, q.2.2) := by decide +kernel
theorem zd_39 : ∀ q ∈ zc_39, decode cX6_plainCost q.1 = .ok (q.2.1, q.2.2) := by decide +kernel
theorem zd_40 : ∀ q ∈ zc_40, decode cX6_plainCostOfPhrase q.1 = .ok (q.2.1, q.2.2) := by decide +kernel
theorem zd_41 : ∀ q ∈ zc_41, decode cX6_plainCostOfMessage q.1 = .ok (q.2.1, q.2.2) := by decide +kernel
theorem zd_42 : ∀ q ∈ zc_42, decode cX6_timesSent q.1 = .ok (q.2.1, q.2.2) := by decide +kernel
theorem zd_43 : ∀ q ∈ zc_43, decode cX6_copyFrom q.1 = .ok (q.2.1, q.2.2) := by decide +kernel
theorem zd_44 : ∀ q ∈ zc_44, decode cX7_init q.1 = .ok (q.2.1, q.2.2) := by decide +kernel
theorem zd_45 : ∀ q ∈ zc_45, decode cX7_has q.1 = .ok (q.2.1, q.2.2) := by decide +kernel
theorem zd_46 : ∀ q ∈ zc_46, decode cX7_hasPlace q.1 = .ok (q.2.1, q.2.2) := by decide +kernel
theorem zd_47 : ∀ q ∈ zc_47, decode cX7_receivedAt q.1 = .ok (q.2.1, q.2.2) := by decide +kernel
theorem zd_48 : ∀ q ∈ zc_48, decode cX7_costInAll q.1 = .ok (q.2.1, q.2.2) := by decide +kernel
theorem zd_49 : ∀ q ∈ zc_49, decode cX7_garbledLetters q.1 = .ok (q.2.1, q.2.2) := by decide +kernel
theorem zd_50 : ∀ q ∈ zc_50, decode cX7_write q.1 = .ok (q.2.1, q.2.2) := by decide +kernel
theorem zd_51 : ∀ q ∈ zc_51, decode cX7_writePlain q.1 = .ok (q.2.1, q.2.2) := by decide +kernel
theorem zd_52 : ∀ q ∈ zc_52, decode cX7_writeCode q.1 = .ok (q.2.1, q.2.2) := by decide +kernel
theorem zd_53 : ∀ q ∈ zc_53, decode cX7_writeLetter q.1 = .ok (q.2.1, q.2.2) := by decide +kernel
theorem zd_54 : ∀ q ∈ zc_54, decode cX7_copyFrom q.1 = .ok (q.2.1, q.2.2) := by decide +kernel
theorem zd_55 : ∀ q ∈ zc_55, decode cX8_init q.1 = .ok (q.2.1, q.2.2) := by decide +kernel
theorem zd_56 : ∀ q ∈ zc_56, decode cX8_wordAt q.1 = .ok (q.2.1, q.2.2) := by decide +kernel
theorem zd_57 : ∀ q ∈ zc_57, decode cX8_append q.1 = .ok (q.2.1, q.2.2) := by decide +kernel
theorem zd_58 : ∀ q ∈ zc_58, decode cX8_copyFrom q.1 = .ok (q.2.1, q.2.2) := by decide +kernel
theorem zd_59 : ∀ q ∈ zc_59, decode cX8_hasLike q.1 = .ok (q.2.1, q.2.2) := by decide +kernel
theorem zd_60 : ∀ q ∈ zc_60, decode cX9_init q.1 = .ok (q.2.1, q.2.2) := by decide +kernel
theorem zd_61 : ∀ q ∈ zc_61, decode cX9_set q.1 = .ok (q.2.1, q.2.2) := by decide +kernel
theorem zd_62 : ∀ q ∈ zc_62, decode cX9_enter q.1 = .ok (q.2.1, q.2.2) := by decide +kernel
theorem zd_63 : ∀ q ∈ zc_63, decode cX9_recode q.1 = .ok (q.2.1, q.2.2) := by decide +kernel
theorem zd_64 : ∀ q ∈ zc_64, decode cX9_drop q.1 = .ok (q.2.1, q.2.2) := by decide +kernel
theorem zd_65 : ∀ q ∈ zc_65, decode cX9_send q.1 = .ok (q.2.1, q.2.2) := by decide +kernel
theorem zd_66 : ∀ q ∈ zc_66, decode cX9_sendAgain q.1 = .ok (q.2.1, q.2.2) := by decide +kernel
theorem zd_67 : ∀ q ∈ zc_67, decode cX9_garble q.1 = .ok (q.2.1, q.2.2) := by decide +kernel
theorem zd_68 : ∀ q ∈ zc_68, decode cX9_entry q.1 = .ok (q.2.1, q.2.2) := by decide +kernel
theorem zd_69 : ∀ q ∈ zc_69, decode cX0_init q.1 = .ok (q.2.1, q.2.2) := by decide +kernel
theorem zd_70 : ∀ q ∈ zc_70, decode cX9_count q.1 = .ok (q.2.1, q.2.2) := by decide +kernel
theorem zd_71 : ∀ q ∈ zc_71, decode cX9_letter q.1 = .ok (q.2.1, q.2.2) := by decide +kernel
theorem zd_72 : ∀ q ∈ zc_72, decode cX9_received q.1 = .ok (q.2.1, q.2.2) := by decide +kernel
theorem zd_73 : ∀ q ∈ zc_73, decode cX9_receivedSo q.1 = .ok (q.2.1, q.2.2) := by decide +kernel
theorem zd_74 : ∀ q ∈ zc_74, decode cX9_costOf q.1 = .ok (q.2.1, q.2.2) := by decide +kernel
theorem zd_75 : ∀ q ∈ zc_75, decode cX9_saves q.1 = .ok (q.2.1, q.2.2) := by decide +kernel
theorem zd_76 : ∀ q ∈ zc_76, decode cX0_init q.1 = .ok (q.2.1, q.2.2) := by decide +kernel
theorem zd_77 : ∀ q ∈ zc_77, decode cX0_init q.1 = .ok (q.2.1, q.2.2) := by decide +kernel
theorem zd_78 : ∀ q ∈ zc_78, decode cX0_init q.1 = .ok (q.2.1, q.2.2) := by decide +kernel
theorem zd_79 : ∀ q ∈ zc_79, decode cX9_put q.1 = .ok (q.2.1, q.2.2) := by decide +kernel
theorem zd_80 : ∀ q ∈ zc_80, decode cX9_wipe q.1 = .ok (q.2.1, q.2.2) := by decide +kernel
theorem zd_81 : ∀ q ∈ zc_81, decode cX0_init q.1 = .ok (q.2.1, q.2.2) := by decide +kernel
theorem zd_82 : ∀ q ∈ zc_82, decode cX0_init q.1 = .ok (q.2.1, q.2.2) := by decide +kernel
theorem zd_83 : ∀ q ∈ zc_83, decode cX0_init q.1 = .ok (q.2.1, q.2.2) := by decide +kernel
theorem zd_84 : ∀ q ∈ zc_84, decode cX0_init q.1 = .ok (q.2.1, q.2.2) := by decide +kernel
theorem zd_85 : ∀ q ∈ zc_85, decode cX9_readPad q.1 = .ok (q.2.1, q.2.2) := by decide +kernel
theorem zd_86 : ∀ q ∈ zc_86, decode cX9_sendMessage q.1 = .ok (q.2.1, q.2.2) := by decide +kernel
theorem zd_87 : ∀ q ∈ zc_87, decode cX9_signsIn q.1 = .ok (q.2.1, q.2.2) := by decide +kernel
theorem zd_88 : ∀ q ∈ zc_88, decode cX9_isCode q.1 = .ok (q.2.1, q.2.2) := by decide +kernel
theorem zd_89 : ∀ q ∈ zc_89, decode cX9_codeLetterOf q.1 = .ok (q.2.1, q.2.2) := by decide +kernel
theorem zd_90 : ∀ q ∈ zc_90, decode cX9_unlikePlaces q.1 = .ok (q.2.1, q.2.2) := by decide +kernel
theorem zd_91 : ∀ q ∈ zc_91, decode cX9_unlikeInHalf q.1 = .ok (q.2.1, q.2.2) := by decide +kernel
theorem zd_92 : ∀ q ∈ zc_92, decode cX9_longerWord q.1 = .ok (q.2.1, q.2.2) := by decide +kernel
theorem zd_93 : ∀ q ∈ zc_93, decode cX9_lengthOf q.1 = .ok (q.2.1, q.2.2) := by decide +kernel
theorem zd_94 : ∀ q ∈ zc_94, decode cX9_plainLetterOf q.1 = .ok (q.2.1, q.2.2) := by decide +kernel
theorem zd_95 : ∀ q ∈ zc_95, decode cX9_checkLetterOf q.1 = .ok (q.2.1, q.2.2) := by decide +kernel
theorem zd_96 : ∀ q ∈ zc_96, decode cX9_at q.1 = .ok (q.2.1, q.2.2) := by decide +kernel
theorem zd_97 : ∀ q ∈ zc_97, decode cX9_at_ q.1 = .ok (q.2.1, q.2.2) := by decide +kernel
theorem zd_98 : ∀ q ∈ zc_98, decode cX9_lay q.1 = .ok (q.2.1, q.2.2) := by decide +kernel
theorem zd_99 : ∀ q ∈ zc_99, decode cX9_lay_ q.1 = .ok (q.2.1, q.2.2) := by decide +kernel
theorem zd_100 : ∀ q ∈ zc_100, decode cX9_copyRow q.1 = .ok (q.2.1, q.2.2) := by decide +kernel
theorem zd_101 : ∀ q ∈ zc_101, decode cX9_copyRow_ q.1 = .ok (q.2.1, q.2.2) := by decide +kernel
theorem zd_102 : ∀ q ∈ zc_102, decode cL_cell q.1 = .ok (q.2.1, q.2.2) := by decide +kernel
theorem zd_103 : ∀ q ∈ zc_103, decode cL_low q.1 = .ok (q.2.1, q.2.2) := by decide +kernel
theorem zd_104 : ∀ q ∈ zc_104, decode cL_size q.1 = .ok (q.2.1, q.2.2) := by decide +kernel
theorem zd_105 : ∀ q ∈ zc_105, decode cL_letter q.1 = .ok (q.2.1, q.2.2) := by decide +kernel
theorem zd_106 : ∀ q ∈ zc_106, decode cL_plain q.1 = .ok (q.2.1, q.2.2) := by decide +kernel
theorem zd_107 : ∀ q ∈ zc_107, decode cL_digit q.1 = .ok (q.2.1, q.2.2) := by decide +kernel
theorem zd_108 : ∀ q ∈ zc_108, decode cL_apart q.1 = .ok (q.2.1, q.2.2) := by decide +kernel
theorem zd_109 : ∀ q ∈ zc_109, decode cL_entryOf q.1 = .ok (q.2.1, q.2.2) := by decide +kernel
theorem zd_110 : ∀ q ∈ zc_110, decode cL_cost q.1 = .ok (q.2.1, q.2.2) := by decide +kernel
theorem zd_111 : ∀ q ∈ zc_111, decode cL_bits q.1 = .ok (q.2.1, q.2.2) := by decide +kernel
theorem zd_112 : ∀ q ∈ zc_112, decode cL_best q.1 = .ok (q.2.1, q.2.2) := by decide +kernel
theorem zd_113_0 : ∀ q ∈ zc_113_0, decode cL_send q.1 = .ok (q.2.1, q.2.2) := by decide +kernel
theorem zd_113_1 : ∀ q ∈ zc_113_1, decode cL_send q.1 = .ok (q.2.1, q.2.2) := by decide +kernel
theorem zd_113_2 : ∀ q ∈ zc_113_2, decode cL_send q.1 = .ok (q.2.1, q.2.2) := by decide +kernel
theorem zd_113_3 : ∀ q ∈ zc_113_3, decode cL_send q.1 = .ok (q.2.1, q.2.2) := by decide +kernel
theorem zd_113 : ∀ q ∈ zc_113, decode cL_send q.1 = .ok (q.2.1, q.2.2) := List.forall_mem_append.mpr ⟨zd_113_0, List.forall_mem_append.mpr ⟨zd_113_1, List.forall_mem_append.mpr ⟨zd_113_2, zd_113_3⟩⟩⟩
theorem zd_114_0 : ∀ q ∈ zc_114_0, decode cL_receive q.1 = .ok (q.2.1, q.2.2) := by decide +kernel
theorem zd_114_1 : ∀ q ∈ zc_114_1, decode cL_receive q.1 = .ok (q.2.1, q.2.2) := by decide +kernel
theorem zd_114_2 : ∀ q ∈ zc_114_2, decode cL_receive q.1 = .ok (q.2.1, q.2.2) := by decide +kernel
theorem zd_114_3 : ∀ q ∈ zc_114_3, decode cL_receive q.1 = .ok (q.2.1, q.2.2) := by decide +kernel
theorem zd_114 : ∀ q ∈ zc_114, decode cL_receive q.1 = .ok (q.2.1, q.2.2) := List.forall_mem_append.mpr ⟨zd_114_0, List.forall_mem_append.mpr ⟨zd_114_1, List.forall_mem_append.mpr ⟨zd_114_2, zd_114_3⟩⟩⟩
theorem zd_115 : ∀ q ∈ zc_115, decode cL_text q.1 = .ok (q.2.1, q.2.2) := by decide +kernel
theorem zd_116_0 : ∀ q ∈ zc_116_0, decode cL_same q.1 = .ok (q.2.1, q.2.2) := by decide +kernel
theorem zd_116_1 : ∀ q ∈ zc_116_1, decode cL_same q.1 = .ok (q.2.1, q.2.2) := by decide +kernel
theorem zd_116_2 : ∀ q ∈ zc_116_2, decode cL_same q.1 = .ok (q.2.1, q.2.2) := by decide +kernel
theorem zd_116_3 : ∀ q ∈ zc_116_3, decode cL_same q.1 = .ok (q.2.1, q.2.2) := by decide +kernel
theorem zd_116_4 : ∀ q ∈ zc_116_4, decode cL_same q.1 = .ok (q.2.1, q.2.2) := by decide +kernel
theorem zd_116_5 : ∀ q ∈ zc_116_5, decode cL_same q.1 = .ok (q.2.1, q.2.2) := by decide +kernel
theorem zd_116_6 : ∀ q ∈ zc_116_6, decode cL_same q.1 = .ok (q.2.1, q.2.2) := by decide +kernel
theorem zd_116_7 : ∀ q ∈ zc_116_7, decode cL_same q.1 = .ok (q.2.1, q.2.2) := by decide +kernel
theorem zd_116_8 : ∀ q ∈ zc_116_8, decode cL_same q.1 = .ok (q.2.1, q.2.2) := by decide +kernel
theorem zd_116_9 : ∀ q ∈ zc_116_9, decode cL_same q.1 = .ok (q.2.1, q.2.2) := by decide +kernel
theorem zd_116 : ∀ q ∈ zc_116, decode cL_same q.1 = .ok (q.2.1, q.2.2) := List.forall_mem_append.mpr ⟨zd_116_0, List.forall_mem_append.mpr ⟨zd_116_1, List.forall_mem_append.mpr ⟨zd_116_2, List.forall_mem_append.mpr ⟨zd_116_3, List.forall_mem_append.mpr ⟨zd_116_4, List.forall_mem_append.mpr ⟨zd_116_5, List.forall_mem_append.mpr ⟨zd_116_6, List.forall_mem_append.mpr ⟨zd_116_7, List.forall_mem_append.mpr ⟨zd_116_8, zd_116_9⟩⟩⟩⟩⟩⟩⟩⟩⟩
theorem zd_117 : ∀ q ∈ zc_117, decode cL_types q.1 = .ok (q.2.1, q.2.2) := by decide +kernel
theorem zd_118 : ∀ q ∈ zc_118, decode cL_word q.1 = .ok (q.2.1, q.2.2) := by decide +kernel
theorem zd_119 : ∀ q ∈ zc_119, decode cL_far q.1 = .ok (q.2.1, q.2.2) := by decide +kernel
theorem zd_120_0 : ∀ q ∈ zc_120_0, decode cL_law q.1 = .ok (q.2.1, q.2.2) := by decide +kernel
theorem zd_120_1 : ∀ q ∈ zc_120_1, decode cL_law q.1 = .ok (q.2.1, q.2.2) := by decide +kernel
theorem zd_120_2 : ∀ q ∈ zc_120_2, decode cL_law q.1 = .ok (q.2.1, q.2.2) := by decide +kernel
theorem zd_120_3 : ∀ q ∈ zc_120_3, decode cL_law q.1 = .ok (q.2.1, q.2.2) := by decide +kernel
theorem zd_120_4 : ∀ q ∈ zc_120_4, decode cL_law q.1 = .ok (q.2.1, q.2.2) := by decide +kernel
theorem zd_120_5 : ∀ q ∈ zc_120_5, decode cL_law q.1 = .ok (q.2.1, q.2.2) := by decide +kernel
theorem zd_120_6 : ∀ q ∈ zc_120_6, decode cL_law q.1 = .ok (q.2.1, q.2.2) := by decide +kernel
theorem zd_120_7 : ∀ q ∈ zc_120_7, decode cL_law q.1 = .ok (q.2.1, q.2.2) := by decide +kernel
theorem zd_120_8 : ∀ q ∈ zc_120_8, decode cL_law q.1 = .ok (q.2.1, q.2.2) := by decide +kernel
theorem zd_120_9 : ∀ q ∈ zc_120_9, decode cL_law q.1 = .ok (q.2.1, q.2.2) := by decide +kernel
theorem zd_120 : ∀ q ∈ zc_120, decode cL_law q.1 = .ok (q.2.1, q.2.2) := List.forall_mem_append.mpr ⟨zd_120_0, List.forall_mem_append.mpr ⟨zd_120_1, List.forall_mem_append.mpr ⟨zd_120_2, List.forall_mem_append.mpr ⟨zd_120_3, List.forall_mem_append.mpr ⟨zd_120_4, List.forall_mem_append.mpr ⟨zd_120_5, List.forall_mem_append.mpr ⟨zd_120_6, List.forall_mem_append.mpr ⟨zd_120_7, List.forall_mem_append.mpr ⟨zd_120_8, zd_120_9⟩⟩⟩⟩⟩⟩⟩⟩⟩
theorem zd_ok_to_20 : ∀ k, k < 20 → ∀ q ∈ zcd k, decode (zb k) q.1 = .ok (q.2.1, q.2.2) := lt_s (lt_s (lt_s (lt_s (lt_s (lt_s (lt_s (lt_s (lt_s (lt_s (lt_s (lt_s (lt_s (lt_s (lt_s (lt_s (lt_s (lt_s (lt_s (lt_s (lt_0) zd_0) zd_1) zd_2) zd_3) zd_4) zd_5) zd_6) zd_7) zd_8) zd_9) zd_10) zd_11) zd_12) zd_13) zd_14) zd_15) zd_16) zd_17) zd_18) zd_19
theorem zd_ok_to_40 : ∀ k, k < 40 → ∀ q ∈ zcd k, decode (zb k) q.1 = .ok (q.2.1, q.2.2) := lt_s (lt_s (lt_s (lt_s (lt_s (lt_s (lt_s (lt_s (lt_s (lt_s (lt_s (lt_s (lt_s (lt_s (lt_s (lt_s (lt_s (lt_s (lt_s (lt_s (zd_ok_to_20) zd_20) zd_21) zd_22) zd_23) zd_24) zd_25) zd_26) zd_27) zd_28) zd_29) zd_30) zd_31) zd_32) zd_33) zd_34) zd_35) zd_36) zd_37) zd_38) zd_39
theorem zd_ok_to_60 : ∀ k, k < 60 → ∀ q ∈ zcd k, decode (zb k) q.1 = .ok (q.2.1, q.2.2) := lt_s (lt_s (lt_s (lt_s (lt_s (lt_s (lt_s (lt_s (lt_s (lt_s (lt_s (lt_s (lt_s (lt_s (lt_s (lt_s (lt_s (lt_s (lt_s (lt_s (zd_ok_to_40) zd_40) zd_41) zd_42) zd_43) zd_44) zd_45) zd_46) zd_47) zd_48) zd_49) zd_50) zd_51) zd_52) zd_53) zd_54) zd_55) zd_56) zd_57) zd_58) zd_59
theorem zd_ok_to_80 : ∀ k, k < 80 → ∀ q ∈ zcd k, decode (zb k) q.1 = .ok (q.2.1, q.2.2) := lt_s (lt_s (lt_s (lt_s (lt_s (lt_s (lt_s (lt_s (lt_s (lt_s (lt_s (lt_s (lt_s (lt_s (lt_s (lt_s (lt_s (lt_s (lt_s (lt_s (zd_ok_to_60) zd_60) zd_61) zd_62) zd_63) zd_64) zd_65) zd_66) zd_67) zd_68) zd_69) zd_70) zd_71) zd_72) zd_73) zd_74) zd_75) zd_76) zd_77) zd_78) zd_79
theorem zd_ok_to_100 : ∀ k, k < 100 → ∀ q ∈ zcd k, decode (zb k) q.1 = .ok (q.2.1, q.2.2) := lt_s (lt_s (lt_s (lt_s (lt_s (lt_s (lt_s (lt_s (lt_s (lt_s (lt_s (lt_s (lt_s (lt_s (lt_s (lt_s (lt_s (lt_s (lt_s (lt_s (zd_ok_to_80) zd_80) zd_81) zd_82) zd_83) zd_84) zd_85) zd_86) zd_87) zd_88) zd_89) zd_90) zd_91) zd_92) zd_93) zd_94) zd_95) zd_96) zd_97) zd_98) zd_99
theorem zd_ok_to_120 : ∀ k, k < 120 → ∀ q ∈ zcd k, decode (zb k) q.1 = .ok (q.2.1, q.2.2) := lt_s (lt_s (lt_s (lt_s (lt_s (lt_s (lt_s (lt_s (lt_s (lt_s (lt_s (lt_s (lt_s (lt_s (lt_s (lt_s (lt_s (lt_s (lt_s (lt_s (zd_ok_to_100) zd_100) zd_101) zd_102) zd_103) zd_104) zd_105) zd_106) zd_107) zd_108) zd_109) zd_110) zd_111) zd_112) zd_113) zd_114) zd_115) zd_116) zd_117) zd_118) zd_119
theorem zd_ok_to_121 : ∀ k, k < 121 → ∀ q ∈ zcd k, decode (zb k) q.1 = .ok (q.2.1, q.2.2) := lt_s (zd_ok_to_120) zd_120
theorem zd_ok : ∀ k, k < 121 → ∀ q ∈ zcd k, decode (zb k) q.1 = .ok (q.2.1, q.2.2) := zd_ok_to_121
def zrmI (k : Nat) (i : Option Instr) : Bool := match i with
  | some (.invokevirtual j) => decide (j < 120) && decide (zfr j + 1 ≤ zfr k) && decide (8 + (zmx j + 11) + zlo j ≤ zlo k)
  | some (.invokestatic j) => decide (j < 120) && decide (zfr j + 1 ≤ zfr k) && decide (8 + (zmx j + 11) + zlo j ≤ zlo k)
  | some (.invokespecial j) => decide (j < 120) && decide (zfr j + 1 ≤ zfr k) && decide (8 + (zmx j + 11) + zlo j ≤ zlo k)
  | some .pop => decide (1 ≤ zfr k) && decide (20 ≤ zlo k)
  | some (.invokedynamic b) => decide (1 ≤ zfr k) && decide ((if b = 3 then 26 else 21) ≤ zlo k)
  | some .return_ => true
  | some _ => true
  | none => false
def zrm (k : Nat) : Bool := (zcd k).all fun q => zrmI k (zres k q.1 q.2.1)
set_option maxRecDepth 20000 in
theorem zrm_ok : (List.range 121).all zrm = true := by decide +kernel
/-- how long an instruction is -/
def zlen (r : Instr) (len : Nat) : Bool := match r with
  | .bipush _ => len == 2
  | .sipush _ => len == 3
  | .ldc _ => len == 2
  | .ldc2_w _ => len == 3
  | .iload _ => len == 2
  | .aload _ => len == 2
  | .astore _ => len == 2
  | .lload _ => len == 2
  | .istore _ => len == 2
  | .lstore _ => len == 2
  | .iinc _ _ => len == 3
  | .ifCond _ _ => len == 3
  | .if_icmp _ _ => len == 3
  | .goto _ => len == 3
  | .ifnonnull _ => len == 3
  | .getfield _ => len == 3
  | .putfield _ => len == 3
  | .getstatic _ => len == 3
  | .new _ => len == 3
  | .newarray _ => len == 2
  | .anewarray _ => len == 3
  | .invokevirtual _ => len == 3
  | .invokestatic _ => len == 3
  | .invokespecial _ => len == 3
  | .tableswitch _ _ _ _ => true
  | _ => len == 1
set_option maxRecDepth 20000 in
theorem zln_ok : (List.range 121).all (fun k => (zcd k).all fun q => zlen q.2.1 q.2.2) = true := by decide +kernel
