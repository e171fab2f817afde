/-! Switches (written by gen_ts.py) -/
set_option maxRecDepth 100000 in
theorem eTs_in {g : zgo} {pc : Nat} {ls r : List zV} {h : zH} {d lo hi : Int} {os : Array Int} {z o : Int} {t : Nat} (hz : zr z) (h1 : ¬ (z < lo ∨ hi < z)) (ho : os[(z - lo).toNat]? = some o) (h0 : (pc : Int) + o = t) : eTs g pc ls (vI z :: r) h d lo hi os = g t ls r h := by
  show (if zr z then (if z < lo ∨ hi < z then (if 0 ≤ (pc : Int) + d then g ((pc : Int) + d).toNat ls r h else False) else match os[(z - lo).toNat]? with
    | some o => if 0 ≤ (pc : Int) + o then g ((pc : Int) + o).toNat ls r h else False
    | none => False) else False) = _
  rw [if_pos hz, if_neg h1, ho]
  show (if 0 ≤ (pc : Int) + o then g ((pc : Int) + o).toNat ls r h else False) = _
  rw [if_pos (by omega), h0]
  exact rfl
set_option maxRecDepth 100000 in
theorem eTs_out {g : zgo} {pc : Nat} {ls r : List zV} {h : zH} {d lo hi : Int} {os : Array Int} {z : Int} {t : Nat} (hz : zr z) (h1 : z < lo ∨ hi < z) (h0 : (pc : Int) + d = t) : eTs g pc ls (vI z :: r) h d lo hi os = g t ls r h := by
  show (if zr z then (if z < lo ∨ hi < z then (if 0 ≤ (pc : Int) + d then g ((pc : Int) + d).toNat ls r h else False) else match os[(z - lo).toNat]? with
    | some o => if 0 ≤ (pc : Int) + o then g ((pc : Int) + o).toNat ls r h else False
    | none => False) else False) = _
  rw [if_pos hz, if_pos h1, if_pos (by omega), h0]
  exact rfl
set_option maxRecDepth 100000 in
theorem ets_68_0 (g : zgo) (ls r : List zV) (h : zH) : eTs g 17 ls (vI 0 :: r) h 128 0 5 #[39, 51, 63, 75, 98, 119] = g 56 ls r h := eTs_in (by decide) (by decide) (by rfl) (by decide)
set_option maxRecDepth 100000 in
theorem ets_68_1 (g : zgo) (ls r : List zV) (h : zH) : eTs g 17 ls (vI 1 :: r) h 128 0 5 #[39, 51, 63, 75, 98, 119] = g 68 ls r h := eTs_in (by decide) (by decide) (by rfl) (by decide)
set_option maxRecDepth 100000 in
theorem ets_68_2 (g : zgo) (ls r : List zV) (h : zH) : eTs g 17 ls (vI 2 :: r) h 128 0 5 #[39, 51, 63, 75, 98, 119] = g 80 ls r h := eTs_in (by decide) (by decide) (by rfl) (by decide)
set_option maxRecDepth 100000 in
theorem ets_68_3 (g : zgo) (ls r : List zV) (h : zH) : eTs g 17 ls (vI 3 :: r) h 128 0 5 #[39, 51, 63, 75, 98, 119] = g 92 ls r h := eTs_in (by decide) (by decide) (by rfl) (by decide)
set_option maxRecDepth 100000 in
theorem ets_68_4 (g : zgo) (ls r : List zV) (h : zH) : eTs g 17 ls (vI 4 :: r) h 128 0 5 #[39, 51, 63, 75, 98, 119] = g 115 ls r h := eTs_in (by decide) (by decide) (by rfl) (by decide)
set_option maxRecDepth 100000 in
theorem ets_68_5 (g : zgo) (ls r : List zV) (h : zH) : eTs g 17 ls (vI 5 :: r) h 128 0 5 #[39, 51, 63, 75, 98, 119] = g 136 ls r h := eTs_in (by decide) (by decide) (by rfl) (by decide)
set_option maxRecDepth 100000 in
theorem ets_68_o {z : Int} (hz : zr z) (hr : z < 0 ∨ 5 < z) (g : zgo) (ls r : List zV) (h : zH) : eTs g 17 ls (vI z :: r) h 128 0 5 #[39, 51, 63, 75, 98, 119] = g 145 ls r h := eTs_out hz hr (by decide)
set_option maxRecDepth 100000 in
theorem ets_70_0 (g : zgo) (ls r : List zV) (h : zH) : eTs g 1 ls (vI 0 :: r) h 184 0 11 #[63, 74, 88, 99, 110, 118, 129, 137, 149, 157, 168, 176] = g 64 ls r h := eTs_in (by decide) (by decide) (by rfl) (by decide)
set_option maxRecDepth 100000 in
theorem ets_70_1 (g : zgo) (ls r : List zV) (h : zH) : eTs g 1 ls (vI 1 :: r) h 184 0 11 #[63, 74, 88, 99, 110, 118, 129, 137, 149, 157, 168, 176] = g 75 ls r h := eTs_in (by decide) (by decide) (by rfl) (by decide)
set_option maxRecDepth 100000 in
theorem ets_70_2 (g : zgo) (ls r : List zV) (h : zH) : eTs g 1 ls (vI 2 :: r) h 184 0 11 #[63, 74, 88, 99, 110, 118, 129, 137, 149, 157, 168, 176] = g 89 ls r h := eTs_in (by decide) (by decide) (by rfl) (by decide)
set_option maxRecDepth 100000 in
theorem ets_70_3 (g : zgo) (ls r : List zV) (h : zH) : eTs g 1 ls (vI 3 :: r) h 184 0 11 #[63, 74, 88, 99, 110, 118, 129, 137, 149, 157, 168, 176] = g 100 ls r h := eTs_in (by decide) (by decide) (by rfl) (by decide)
set_option maxRecDepth 100000 in
theorem ets_70_4 (g : zgo) (ls r : List zV) (h : zH) : eTs g 1 ls (vI 4 :: r) h 184 0 11 #[63, 74, 88, 99, 110, 118, 129, 137, 149, 157, 168, 176] = g 111 ls r h := eTs_in (by decide) (by decide) (by rfl) (by decide)
set_option maxRecDepth 100000 in
theorem ets_70_5 (g : zgo) (ls r : List zV) (h : zH) : eTs g 1 ls (vI 5 :: r) h 184 0 11 #[63, 74, 88, 99, 110, 118, 129, 137, 149, 157, 168, 176] = g 119 ls r h := eTs_in (by decide) (by decide) (by rfl) (by decide)
set_option maxRecDepth 100000 in
theorem ets_70_6 (g : zgo) (ls r : List zV) (h : zH) : eTs g 1 ls (vI 6 :: r) h 184 0 11 #[63, 74, 88, 99, 110, 118, 129, 137, 149, 157, 168, 176] = g 130 ls r h := eTs_in (by decide) (by decide) (by rfl) (by decide)
set_option maxRecDepth 100000 in
theorem ets_70_7 (g : zgo) (ls r : List zV) (h : zH) : eTs g 1 ls (vI 7 :: r) h 184 0 11 #[63, 74, 88, 99, 110, 118, 129, 137, 149, 157, 168, 176] = g 138 ls r h := eTs_in (by decide) (by decide) (by rfl) (by decide)
set_option maxRecDepth 100000 in
theorem ets_70_8 (g : zgo) (ls r : List zV) (h : zH) : eTs g 1 ls (vI 8 :: r) h 184 0 11 #[63, 74, 88, 99, 110, 118, 129, 137, 149, 157, 168, 176] = g 150 ls r h := eTs_in (by decide) (by decide) (by rfl) (by decide)
set_option maxRecDepth 100000 in
theorem ets_70_9 (g : zgo) (ls r : List zV) (h : zH) : eTs g 1 ls (vI 9 :: r) h 184 0 11 #[63, 74, 88, 99, 110, 118, 129, 137, 149, 157, 168, 176] = g 158 ls r h := eTs_in (by decide) (by decide) (by rfl) (by decide)
set_option maxRecDepth 100000 in
theorem ets_70_10 (g : zgo) (ls r : List zV) (h : zH) : eTs g 1 ls (vI 10 :: r) h 184 0 11 #[63, 74, 88, 99, 110, 118, 129, 137, 149, 157, 168, 176] = g 169 ls r h := eTs_in (by decide) (by decide) (by rfl) (by decide)
set_option maxRecDepth 100000 in
theorem ets_70_11 (g : zgo) (ls r : List zV) (h : zH) : eTs g 1 ls (vI 11 :: r) h 184 0 11 #[63, 74, 88, 99, 110, 118, 129, 137, 149, 157, 168, 176] = g 177 ls r h := eTs_in (by decide) (by decide) (by rfl) (by decide)
set_option maxRecDepth 100000 in
theorem ets_70_o {z : Int} (hz : zr z) (hr : z < 0 ∨ 11 < z) (g : zgo) (ls r : List zV) (h : zH) : eTs g 1 ls (vI z :: r) h 184 0 11 #[63, 74, 88, 99, 110, 118, 129, 137, 149, 157, 168, 176] = g 185 ls r h := eTs_out hz hr (by decide)
set_option maxRecDepth 100000 in
theorem ets_72_0 (g : zgo) (ls r : List zV) (h : zH) : eTs g 29 ls (vI 0 :: r) h 109 0 5 #[39, 47, 55, 63, 78, 94] = g 68 ls r h := eTs_in (by decide) (by decide) (by rfl) (by decide)
set_option maxRecDepth 100000 in
theorem ets_72_1 (g : zgo) (ls r : List zV) (h : zH) : eTs g 29 ls (vI 1 :: r) h 109 0 5 #[39, 47, 55, 63, 78, 94] = g 76 ls r h := eTs_in (by decide) (by decide) (by rfl) (by decide)
set_option maxRecDepth 100000 in
theorem ets_72_2 (g : zgo) (ls r : List zV) (h : zH) : eTs g 29 ls (vI 2 :: r) h 109 0 5 #[39, 47, 55, 63, 78, 94] = g 84 ls r h := eTs_in (by decide) (by decide) (by rfl) (by decide)
set_option maxRecDepth 100000 in
theorem ets_72_3 (g : zgo) (ls r : List zV) (h : zH) : eTs g 29 ls (vI 3 :: r) h 109 0 5 #[39, 47, 55, 63, 78, 94] = g 92 ls r h := eTs_in (by decide) (by decide) (by rfl) (by decide)
set_option maxRecDepth 100000 in
theorem ets_72_4 (g : zgo) (ls r : List zV) (h : zH) : eTs g 29 ls (vI 4 :: r) h 109 0 5 #[39, 47, 55, 63, 78, 94] = g 107 ls r h := eTs_in (by decide) (by decide) (by rfl) (by decide)
set_option maxRecDepth 100000 in
theorem ets_72_5 (g : zgo) (ls r : List zV) (h : zH) : eTs g 29 ls (vI 5 :: r) h 109 0 5 #[39, 47, 55, 63, 78, 94] = g 123 ls r h := eTs_in (by decide) (by decide) (by rfl) (by decide)
set_option maxRecDepth 100000 in
theorem ets_72_o {z : Int} (hz : zr z) (hr : z < 0 ∨ 5 < z) (g : zgo) (ls r : List zV) (h : zH) : eTs g 29 ls (vI z :: r) h 109 0 5 #[39, 47, 55, 63, 78, 94] = g 138 ls r h := eTs_out hz hr (by decide)
set_option maxRecDepth 100000 in
theorem ets_146_0 (g : zgo) (ls r : List zV) (h : zH) : eTs g 11 ls (vI 0 :: r) h 94 0 5 #[37, 44, 50, 65, 71, 88] = g 48 ls r h := eTs_in (by decide) (by decide) (by rfl) (by decide)
set_option maxRecDepth 100000 in
theorem ets_146_1 (g : zgo) (ls r : List zV) (h : zH) : eTs g 11 ls (vI 1 :: r) h 94 0 5 #[37, 44, 50, 65, 71, 88] = g 55 ls r h := eTs_in (by decide) (by decide) (by rfl) (by decide)
set_option maxRecDepth 100000 in
theorem ets_146_2 (g : zgo) (ls r : List zV) (h : zH) : eTs g 11 ls (vI 2 :: r) h 94 0 5 #[37, 44, 50, 65, 71, 88] = g 61 ls r h := eTs_in (by decide) (by decide) (by rfl) (by decide)
set_option maxRecDepth 100000 in
theorem ets_146_3 (g : zgo) (ls r : List zV) (h : zH) : eTs g 11 ls (vI 3 :: r) h 94 0 5 #[37, 44, 50, 65, 71, 88] = g 76 ls r h := eTs_in (by decide) (by decide) (by rfl) (by decide)
set_option maxRecDepth 100000 in
theorem ets_146_4 (g : zgo) (ls r : List zV) (h : zH) : eTs g 11 ls (vI 4 :: r) h 94 0 5 #[37, 44, 50, 65, 71, 88] = g 82 ls r h := eTs_in (by decide) (by decide) (by rfl) (by decide)
set_option maxRecDepth 100000 in
theorem ets_146_5 (g : zgo) (ls r : List zV) (h : zH) : eTs g 11 ls (vI 5 :: r) h 94 0 5 #[37, 44, 50, 65, 71, 88] = g 99 ls r h := eTs_in (by decide) (by decide) (by rfl) (by decide)
set_option maxRecDepth 100000 in
theorem ets_146_o {z : Int} (hz : zr z) (hr : z < 0 ∨ 5 < z) (g : zgo) (ls r : List zV) (h : zH) : eTs g 11 ls (vI z :: r) h 94 0 5 #[37, 44, 50, 65, 71, 88] = g 105 ls r h := eTs_out hz hr (by decide)
set_option maxRecDepth 100000 in
theorem ets_150_0 (g : zgo) (ls r : List zV) (h : zH) : eTs g 5 ls (vI 0 :: r) h 126 0 11 #[63, 70, 75, 82, 89, 94, 99, 99, 99, 111, 116, 121] = g 68 ls r h := eTs_in (by decide) (by decide) (by rfl) (by decide)
set_option maxRecDepth 100000 in
theorem ets_150_1 (g : zgo) (ls r : List zV) (h : zH) : eTs g 5 ls (vI 1 :: r) h 126 0 11 #[63, 70, 75, 82, 89, 94, 99, 99, 99, 111, 116, 121] = g 75 ls r h := eTs_in (by decide) (by decide) (by rfl) (by decide)
set_option maxRecDepth 100000 in
theorem ets_150_2 (g : zgo) (ls r : List zV) (h : zH) : eTs g 5 ls (vI 2 :: r) h 126 0 11 #[63, 70, 75, 82, 89, 94, 99, 99, 99, 111, 116, 121] = g 80 ls r h := eTs_in (by decide) (by decide) (by rfl) (by decide)
set_option maxRecDepth 100000 in
theorem ets_150_3 (g : zgo) (ls r : List zV) (h : zH) : eTs g 5 ls (vI 3 :: r) h 126 0 11 #[63, 70, 75, 82, 89, 94, 99, 99, 99, 111, 116, 121] = g 87 ls r h := eTs_in (by decide) (by decide) (by rfl) (by decide)
set_option maxRecDepth 100000 in
theorem ets_150_4 (g : zgo) (ls r : List zV) (h : zH) : eTs g 5 ls (vI 4 :: r) h 126 0 11 #[63, 70, 75, 82, 89, 94, 99, 99, 99, 111, 116, 121] = g 94 ls r h := eTs_in (by decide) (by decide) (by rfl) (by decide)
set_option maxRecDepth 100000 in
theorem ets_150_5 (g : zgo) (ls r : List zV) (h : zH) : eTs g 5 ls (vI 5 :: r) h 126 0 11 #[63, 70, 75, 82, 89, 94, 99, 99, 99, 111, 116, 121] = g 99 ls r h := eTs_in (by decide) (by decide) (by rfl) (by decide)
set_option maxRecDepth 100000 in
theorem ets_150_6 (g : zgo) (ls r : List zV) (h : zH) : eTs g 5 ls (vI 6 :: r) h 126 0 11 #[63, 70, 75, 82, 89, 94, 99, 99, 99, 111, 116, 121] = g 104 ls r h := eTs_in (by decide) (by decide) (by rfl) (by decide)
set_option maxRecDepth 100000 in
theorem ets_150_7 (g : zgo) (ls r : List zV) (h : zH) : eTs g 5 ls (vI 7 :: r) h 126 0 11 #[63, 70, 75, 82, 89, 94, 99, 99, 99, 111, 116, 121] = g 104 ls r h := eTs_in (by decide) (by decide) (by rfl) (by decide)
set_option maxRecDepth 100000 in
theorem ets_150_8 (g : zgo) (ls r : List zV) (h : zH) : eTs g 5 ls (vI 8 :: r) h 126 0 11 #[63, 70, 75, 82, 89, 94, 99, 99, 99, 111, 116, 121] = g 104 ls r h := eTs_in (by decide) (by decide) (by rfl) (by decide)
set_option maxRecDepth 100000 in
theorem ets_150_9 (g : zgo) (ls r : List zV) (h : zH) : eTs g 5 ls (vI 9 :: r) h 126 0 11 #[63, 70, 75, 82, 89, 94, 99, 99, 99, 111, 116, 121] = g 116 ls r h := eTs_in (by decide) (by decide) (by rfl) (by decide)
set_option maxRecDepth 100000 in
theorem ets_150_10 (g : zgo) (ls r : List zV) (h : zH) : eTs g 5 ls (vI 10 :: r) h 126 0 11 #[63, 70, 75, 82, 89, 94, 99, 99, 99, 111, 116, 121] = g 121 ls r h := eTs_in (by decide) (by decide) (by rfl) (by decide)
set_option maxRecDepth 100000 in
theorem ets_150_11 (g : zgo) (ls r : List zV) (h : zH) : eTs g 5 ls (vI 11 :: r) h 126 0 11 #[63, 70, 75, 82, 89, 94, 99, 99, 99, 111, 116, 121] = g 126 ls r h := eTs_in (by decide) (by decide) (by rfl) (by decide)
set_option maxRecDepth 100000 in
theorem ets_150_o {z : Int} (hz : zr z) (hr : z < 0 ∨ 11 < z) (g : zgo) (ls r : List zV) (h : zH) : eTs g 5 ls (vI z :: r) h 126 0 11 #[63, 70, 75, 82, 89, 94, 99, 99, 99, 111, 116, 121] = g 131 ls r h := eTs_out hz hr (by decide)
set_option maxRecDepth 100000 in
theorem ets_161_0 (g : zgo) (ls r : List zV) (h : zH) : eTs g 11 ls (vI 0 :: r) h 83 0 5 #[37, 43, 49, 55, 62, 76] = g 48 ls r h := eTs_in (by decide) (by decide) (by rfl) (by decide)
set_option maxRecDepth 100000 in
theorem ets_161_1 (g : zgo) (ls r : List zV) (h : zH) : eTs g 11 ls (vI 1 :: r) h 83 0 5 #[37, 43, 49, 55, 62, 76] = g 54 ls r h := eTs_in (by decide) (by decide) (by rfl) (by decide)
set_option maxRecDepth 100000 in
theorem ets_161_2 (g : zgo) (ls r : List zV) (h : zH) : eTs g 11 ls (vI 2 :: r) h 83 0 5 #[37, 43, 49, 55, 62, 76] = g 60 ls r h := eTs_in (by decide) (by decide) (by rfl) (by decide)
set_option maxRecDepth 100000 in
theorem ets_161_3 (g : zgo) (ls r : List zV) (h : zH) : eTs g 11 ls (vI 3 :: r) h 83 0 5 #[37, 43, 49, 55, 62, 76] = g 66 ls r h := eTs_in (by decide) (by decide) (by rfl) (by decide)
set_option maxRecDepth 100000 in
theorem ets_161_4 (g : zgo) (ls r : List zV) (h : zH) : eTs g 11 ls (vI 4 :: r) h 83 0 5 #[37, 43, 49, 55, 62, 76] = g 73 ls r h := eTs_in (by decide) (by decide) (by rfl) (by decide)
set_option maxRecDepth 100000 in
theorem ets_161_5 (g : zgo) (ls r : List zV) (h : zH) : eTs g 11 ls (vI 5 :: r) h 83 0 5 #[37, 43, 49, 55, 62, 76] = g 87 ls r h := eTs_in (by decide) (by decide) (by rfl) (by decide)
set_option maxRecDepth 100000 in
theorem ets_161_o {z : Int} (hz : zr z) (hr : z < 0 ∨ 5 < z) (g : zgo) (ls r : List zV) (h : zH) : eTs g 11 ls (vI z :: r) h 83 0 5 #[37, 43, 49, 55, 62, 76] = g 94 ls r h := eTs_out hz hr (by decide)
set_option maxRecDepth 100000 in
theorem ets_174_0 (g : zgo) (ls r : List zV) (h : zH) : eTs g 32 ls (vI 0 :: r) h 704 0 23 #[112, 145, 158, 191, 214, 227, 240, 283, 316, 349, 372, 405, 438, 461, 474, 497, 520, 533, 566, 619, 632, 645, 658, 681] = g 144 ls r h := eTs_in (by decide) (by decide) (by rfl) (by decide)
set_option maxRecDepth 100000 in
theorem ets_174_1 (g : zgo) (ls r : List zV) (h : zH) : eTs g 32 ls (vI 1 :: r) h 704 0 23 #[112, 145, 158, 191, 214, 227, 240, 283, 316, 349, 372, 405, 438, 461, 474, 497, 520, 533, 566, 619, 632, 645, 658, 681] = g 177 ls r h := eTs_in (by decide) (by decide) (by rfl) (by decide)
set_option maxRecDepth 100000 in
theorem ets_174_2 (g : zgo) (ls r : List zV) (h : zH) : eTs g 32 ls (vI 2 :: r) h 704 0 23 #[112, 145, 158, 191, 214, 227, 240, 283, 316, 349, 372, 405, 438, 461, 474, 497, 520, 533, 566, 619, 632, 645, 658, 681] = g 190 ls r h := eTs_in (by decide) (by decide) (by rfl) (by decide)
set_option maxRecDepth 100000 in
theorem ets_174_3 (g : zgo) (ls r : List zV) (h : zH) : eTs g 32 ls (vI 3 :: r) h 704 0 23 #[112, 145, 158, 191, 214, 227, 240, 283, 316, 349, 372, 405, 438, 461, 474, 497, 520, 533, 566, 619, 632, 645, 658, 681] = g 223 ls r h := eTs_in (by decide) (by decide) (by rfl) (by decide)
set_option maxRecDepth 100000 in
theorem ets_174_4 (g : zgo) (ls r : List zV) (h : zH) : eTs g 32 ls (vI 4 :: r) h 704 0 23 #[112, 145, 158, 191, 214, 227, 240, 283, 316, 349, 372, 405, 438, 461, 474, 497, 520, 533, 566, 619, 632, 645, 658, 681] = g 246 ls r h := eTs_in (by decide) (by decide) (by rfl) (by decide)
set_option maxRecDepth 100000 in
theorem ets_174_5 (g : zgo) (ls r : List zV) (h : zH) : eTs g 32 ls (vI 5 :: r) h 704 0 23 #[112, 145, 158, 191, 214, 227, 240, 283, 316, 349, 372, 405, 438, 461, 474, 497, 520, 533, 566, 619, 632, 645, 658, 681] = g 259 ls r h := eTs_in (by decide) (by decide) (by rfl) (by decide)
set_option maxRecDepth 100000 in
theorem ets_174_6 (g : zgo) (ls r : List zV) (h : zH) : eTs g 32 ls (vI 6 :: r) h 704 0 23 #[112, 145, 158, 191, 214, 227, 240, 283, 316, 349, 372, 405, 438, 461, 474, 497, 520, 533, 566, 619, 632, 645, 658, 681] = g 272 ls r h := eTs_in (by decide) (by decide) (by rfl) (by decide)
set_option maxRecDepth 100000 in
theorem ets_174_7 (g : zgo) (ls r : List zV) (h : zH) : eTs g 32 ls (vI 7 :: r) h 704 0 23 #[112, 145, 158, 191, 214, 227, 240, 283, 316, 349, 372, 405, 438, 461, 474, 497, 520, 533, 566, 619, 632, 645, 658, 681] = g 315 ls r h := eTs_in (by decide) (by decide) (by rfl) (by decide)
set_option maxRecDepth 100000 in
theorem ets_174_8 (g : zgo) (ls r : List zV) (h : zH) : eTs g 32 ls (vI 8 :: r) h 704 0 23 #[112, 145, 158, 191, 214, 227, 240, 283, 316, 349, 372, 405, 438, 461, 474, 497, 520, 533, 566, 619, 632, 645, 658, 681] = g 348 ls r h := eTs_in (by decide) (by decide) (by rfl) (by decide)
set_option maxRecDepth 100000 in
theorem ets_174_9 (g : zgo) (ls r : List zV) (h : zH) : eTs g 32 ls (vI 9 :: r) h 704 0 23 #[112, 145, 158, 191, 214, 227, 240, 283, 316, 349, 372, 405, 438, 461, 474, 497, 520, 533, 566, 619, 632, 645, 658, 681] = g 381 ls r h := eTs_in (by decide) (by decide) (by rfl) (by decide)
set_option maxRecDepth 100000 in
theorem ets_174_10 (g : zgo) (ls r : List zV) (h : zH) : eTs g 32 ls (vI 10 :: r) h 704 0 23 #[112, 145, 158, 191, 214, 227, 240, 283, 316, 349, 372, 405, 438, 461, 474, 497, 520, 533, 566, 619, 632, 645, 658, 681] = g 404 ls r h := eTs_in (by decide) (by decide) (by rfl) (by decide)
set_option maxRecDepth 100000 in
theorem ets_174_11 (g : zgo) (ls r : List zV) (h : zH) : eTs g 32 ls (vI 11 :: r) h 704 0 23 #[112, 145, 158, 191, 214, 227, 240, 283, 316, 349, 372, 405, 438, 461, 474, 497, 520, 533, 566, 619, 632, 645, 658, 681] = g 437 ls r h := eTs_in (by decide) (by decide) (by rfl) (by decide)
set_option maxRecDepth 100000 in
theorem ets_174_12 (g : zgo) (ls r : List zV) (h : zH) : eTs g 32 ls (vI 12 :: r) h 704 0 23 #[112, 145, 158, 191, 214, 227, 240, 283, 316, 349, 372, 405, 438, 461, 474, 497, 520, 533, 566, 619, 632, 645, 658, 681] = g 470 ls r h := eTs_in (by decide) (by decide) (by rfl) (by decide)
set_option maxRecDepth 100000 in
theorem ets_174_13 (g : zgo) (ls r : List zV) (h : zH) : eTs g 32 ls (vI 13 :: r) h 704 0 23 #[112, 145, 158, 191, 214, 227, 240, 283, 316, 349, 372, 405, 438, 461, 474, 497, 520, 533, 566, 619, 632, 645, 658, 681] = g 493 ls r h := eTs_in (by decide) (by decide) (by rfl) (by decide)
set_option maxRecDepth 100000 in
theorem ets_174_14 (g : zgo) (ls r : List zV) (h : zH) : eTs g 32 ls (vI 14 :: r) h 704 0 23 #[112, 145, 158, 191, 214, 227, 240, 283, 316, 349, 372, 405, 438, 461, 474, 497, 520, 533, 566, 619, 632, 645, 658, 681] = g 506 ls r h := eTs_in (by decide) (by decide) (by rfl) (by decide)
set_option maxRecDepth 100000 in
theorem ets_174_15 (g : zgo) (ls r : List zV) (h : zH) : eTs g 32 ls (vI 15 :: r) h 704 0 23 #[112, 145, 158, 191, 214, 227, 240, 283, 316, 349, 372, 405, 438, 461, 474, 497, 520, 533, 566, 619, 632, 645, 658, 681] = g 529 ls r h := eTs_in (by decide) (by decide) (by rfl) (by decide)
set_option maxRecDepth 100000 in
theorem ets_174_16 (g : zgo) (ls r : List zV) (h : zH) : eTs g 32 ls (vI 16 :: r) h 704 0 23 #[112, 145, 158, 191, 214, 227, 240, 283, 316, 349, 372, 405, 438, 461, 474, 497, 520, 533, 566, 619, 632, 645, 658, 681] = g 552 ls r h := eTs_in (by decide) (by decide) (by rfl) (by decide)
set_option maxRecDepth 100000 in
theorem ets_174_17 (g : zgo) (ls r : List zV) (h : zH) : eTs g 32 ls (vI 17 :: r) h 704 0 23 #[112, 145, 158, 191, 214, 227, 240, 283, 316, 349, 372, 405, 438, 461, 474, 497, 520, 533, 566, 619, 632, 645, 658, 681] = g 565 ls r h := eTs_in (by decide) (by decide) (by rfl) (by decide)
set_option maxRecDepth 100000 in
theorem ets_174_18 (g : zgo) (ls r : List zV) (h : zH) : eTs g 32 ls (vI 18 :: r) h 704 0 23 #[112, 145, 158, 191, 214, 227, 240, 283, 316, 349, 372, 405, 438, 461, 474, 497, 520, 533, 566, 619, 632, 645, 658, 681] = g 598 ls r h := eTs_in (by decide) (by decide) (by rfl) (by decide)
set_option maxRecDepth 100000 in
theorem ets_174_19 (g : zgo) (ls r : List zV) (h : zH) : eTs g 32 ls (vI 19 :: r) h 704 0 23 #[112, 145, 158, 191, 214, 227, 240, 283, 316, 349, 372, 405, 438, 461, 474, 497, 520, 533, 566, 619, 632, 645, 658, 681] = g 651 ls r h := eTs_in (by decide) (by decide) (by rfl) (by decide)
set_option maxRecDepth 100000 in
theorem ets_174_20 (g : zgo) (ls r : List zV) (h : zH) : eTs g 32 ls (vI 20 :: r) h 704 0 23 #[112, 145, 158, 191, 214, 227, 240, 283, 316, 349, 372, 405, 438, 461, 474, 497, 520, 533, 566, 619, 632, 645, 658, 681] = g 664 ls r h := eTs_in (by decide) (by decide) (by rfl) (by decide)
set_option maxRecDepth 100000 in
theorem ets_174_21 (g : zgo) (ls r : List zV) (h : zH) : eTs g 32 ls (vI 21 :: r) h 704 0 23 #[112, 145, 158, 191, 214, 227, 240, 283, 316, 349, 372, 405, 438, 461, 474, 497, 520, 533, 566, 619, 632, 645, 658, 681] = g 677 ls r h := eTs_in (by decide) (by decide) (by rfl) (by decide)
set_option maxRecDepth 100000 in
theorem ets_174_22 (g : zgo) (ls r : List zV) (h : zH) : eTs g 32 ls (vI 22 :: r) h 704 0 23 #[112, 145, 158, 191, 214, 227, 240, 283, 316, 349, 372, 405, 438, 461, 474, 497, 520, 533, 566, 619, 632, 645, 658, 681] = g 690 ls r h := eTs_in (by decide) (by decide) (by rfl) (by decide)
set_option maxRecDepth 100000 in
theorem ets_174_23 (g : zgo) (ls r : List zV) (h : zH) : eTs g 32 ls (vI 23 :: r) h 704 0 23 #[112, 145, 158, 191, 214, 227, 240, 283, 316, 349, 372, 405, 438, 461, 474, 497, 520, 533, 566, 619, 632, 645, 658, 681] = g 713 ls r h := eTs_in (by decide) (by decide) (by rfl) (by decide)
set_option maxRecDepth 100000 in
theorem ets_174_o {z : Int} (hz : zr z) (hr : z < 0 ∨ 23 < z) (g : zgo) (ls r : List zV) (h : zH) : eTs g 32 ls (vI z :: r) h 704 0 23 #[112, 145, 158, 191, 214, 227, 240, 283, 316, 349, 372, 405, 438, 461, 474, 497, 520, 533, 566, 619, 632, 645, 658, 681] = g 736 ls r h := eTs_out hz hr (by decide)
