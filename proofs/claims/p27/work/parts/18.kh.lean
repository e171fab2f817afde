/-! All cells of the class and of the law -/
def zKH (h : zH) (F : Nat → Nat → Int) (J : Nat → Nat → Nat) (V : Nat → Int) (P : Nat → Nat → Option Nat) : Prop :=
  h[3]? = some (oO 9 [vR 4, vR 19, vR 21, vR 22, vR 24, vR 26, vR 31, vR 33]) ∧ h[4]? = some (oO 6 [vR 5, vR 6, vR 9]) ∧ h[5]? = some (aI 3 (F 5)) ∧ h[6]? = some (oO 0 [vR 7, vR 8, vI (V 0)]) ∧ h[7]? = some (aI 16 (F 7)) ∧ h[8]? = some (aJ 48 (J 8)) ∧ h[9]? = some (oO 7 [vR 10, vR 12, vR 13, vR 14, vR 15, vR 16, vR 17, vR 18, vI (V 1)]) ∧ h[10]? = some (oO 8 [vR 11, vI (V 2)]) ∧ h[11]? = some (aJ 12 (J 11)) ∧ h[12]? = some (aI 12 (F 12)) ∧ h[13]? = some (aI 12 (F 13)) ∧ h[14]? = some (aI 12 (F 14)) ∧ h[15]? = some (aI 12 (F 15)) ∧ h[16]? = some (aI 12 (F 16)) ∧ h[17]? = some (aI 156 (F 17)) ∧ h[18]? = some (aI 156 (F 18)) ∧ h[19]? = some (oO 2 [vR 20, vI (V 3), vI (V 4)]) ∧ h[20]? = some (aQ 6 (P 20)) ∧ h[21]? = some (aQ 2 (P 21)) ∧ h[22]? = some (oO 3 [vR 23, vI (V 5)]) ∧ h[23]? = some (aI 80 (F 23)) ∧ h[24]? = some (oO 8 [vR 25, vI (V 6)]) ∧ h[25]? = some (aJ 12 (J 25)) ∧ h[26]? = some (oO 5 [vR 27, vR 28, vR 29, vR 30]) ∧ h[27]? = some (aI 13 (F 27)) ∧ h[28]? = some (aI 13 (F 28)) ∧ h[29]? = some (aI 12 (F 29)) ∧ h[30]? = some (aI 12 (F 30)) ∧ h[31]? = some (oO 1 [vR 32]) ∧ h[32]? = some (aZ 1296 (F 32)) ∧ h[33]? = some (oO 4 [vI (V 7), vI (V 8), vI (V 9), vI (V 10)]) ∧ h[34]? = some (aI 7 (F 34)) ∧ h[35]? = some (aI 50 (F 35)) ∧ h[36]? = some (aI 4 (F 36)) ∧ h[37]? = some (aI 60 (F 37)) ∧ h[38]? = some (aI 3 (F 38))
section
variable {h : zH} {F : Nat → Nat → Int} {J : Nat → Nat → Nat} {V : Nat → Int} {P : Nat → Nat → Option Nat}
set_option maxRecDepth 100000 in
theorem kh_3 (k : zKH h F J V P) : h[3]? = some (oO 9 [vR 4, vR 19, vR 21, vR 22, vR 24, vR 26, vR 31, vR 33]) := k.1
set_option maxRecDepth 100000 in
theorem kh_4 (k : zKH h F J V P) : h[4]? = some (oO 6 [vR 5, vR 6, vR 9]) := k.2.1
set_option maxRecDepth 100000 in
theorem kh_5 (k : zKH h F J V P) : h[5]? = some (aI 3 (F 5)) := k.2.2.1
set_option maxRecDepth 100000 in
theorem kh_6 (k : zKH h F J V P) : h[6]? = some (oO 0 [vR 7, vR 8, vI (V 0)]) := k.2.2.2.1
set_option maxRecDepth 100000 in
theorem kh_7 (k : zKH h F J V P) : h[7]? = some (aI 16 (F 7)) := k.2.2.2.2.1
set_option maxRecDepth 100000 in
theorem kh_8 (k : zKH h F J V P) : h[8]? = some (aJ 48 (J 8)) := k.2.2.2.2.2.1
set_option maxRecDepth 100000 in
theorem kh_9 (k : zKH h F J V P) : h[9]? = some (oO 7 [vR 10, vR 12, vR 13, vR 14, vR 15, vR 16, vR 17, vR 18, vI (V 1)]) := k.2.2.2.2.2.2.1
set_option maxRecDepth 100000 in
theorem kh_10 (k : zKH h F J V P) : h[10]? = some (oO 8 [vR 11, vI (V 2)]) := k.2.2.2.2.2.2.2.1
set_option maxRecDepth 100000 in
theorem kh_11 (k : zKH h F J V P) : h[11]? = some (aJ 12 (J 11)) := k.2.2.2.2.2.2.2.2.1
set_option maxRecDepth 100000 in
theorem kh_12 (k : zKH h F J V P) : h[12]? = some (aI 12 (F 12)) := k.2.2.2.2.2.2.2.2.2.1
set_option maxRecDepth 100000 in
theorem kh_13 (k : zKH h F J V P) : h[13]? = some (aI 12 (F 13)) := k.2.2.2.2.2.2.2.2.2.2.1
set_option maxRecDepth 100000 in
theorem kh_14 (k : zKH h F J V P) : h[14]? = some (aI 12 (F 14)) := k.2.2.2.2.2.2.2.2.2.2.2.1
set_option maxRecDepth 100000 in
theorem kh_15 (k : zKH h F J V P) : h[15]? = some (aI 12 (F 15)) := k.2.2.2.2.2.2.2.2.2.2.2.2.1
set_option maxRecDepth 100000 in
theorem kh_16 (k : zKH h F J V P) : h[16]? = some (aI 12 (F 16)) := k.2.2.2.2.2.2.2.2.2.2.2.2.2.1
set_option maxRecDepth 100000 in
theorem kh_17 (k : zKH h F J V P) : h[17]? = some (aI 156 (F 17)) := k.2.2.2.2.2.2.2.2.2.2.2.2.2.2.1
set_option maxRecDepth 100000 in
theorem kh_18 (k : zKH h F J V P) : h[18]? = some (aI 156 (F 18)) := k.2.2.2.2.2.2.2.2.2.2.2.2.2.2.2.1
set_option maxRecDepth 100000 in
theorem kh_19 (k : zKH h F J V P) : h[19]? = some (oO 2 [vR 20, vI (V 3), vI (V 4)]) := k.2.2.2.2.2.2.2.2.2.2.2.2.2.2.2.2.1
set_option maxRecDepth 100000 in
theorem kh_20 (k : zKH h F J V P) : h[20]? = some (aQ 6 (P 20)) := k.2.2.2.2.2.2.2.2.2.2.2.2.2.2.2.2.2.1
set_option maxRecDepth 100000 in
theorem kh_21 (k : zKH h F J V P) : h[21]? = some (aQ 2 (P 21)) := k.2.2.2.2.2.2.2.2.2.2.2.2.2.2.2.2.2.2.1
set_option maxRecDepth 100000 in
theorem kh_22 (k : zKH h F J V P) : h[22]? = some (oO 3 [vR 23, vI (V 5)]) := k.2.2.2.2.2.2.2.2.2.2.2.2.2.2.2.2.2.2.2.1
set_option maxRecDepth 100000 in
theorem kh_23 (k : zKH h F J V P) : h[23]? = some (aI 80 (F 23)) := k.2.2.2.2.2.2.2.2.2.2.2.2.2.2.2.2.2.2.2.2.1
set_option maxRecDepth 100000 in
theorem kh_24 (k : zKH h F J V P) : h[24]? = some (oO 8 [vR 25, vI (V 6)]) := k.2.2.2.2.2.2.2.2.2.2.2.2.2.2.2.2.2.2.2.2.2.1
set_option maxRecDepth 100000 in
theorem kh_25 (k : zKH h F J V P) : h[25]? = some (aJ 12 (J 25)) := k.2.2.2.2.2.2.2.2.2.2.2.2.2.2.2.2.2.2.2.2.2.2.1
set_option maxRecDepth 100000 in
theorem kh_26 (k : zKH h F J V P) : h[26]? = some (oO 5 [vR 27, vR 28, vR 29, vR 30]) := k.2.2.2.2.2.2.2.2.2.2.2.2.2.2.2.2.2.2.2.2.2.2.2.1
set_option maxRecDepth 100000 in
theorem kh_27 (k : zKH h F J V P) : h[27]? = some (aI 13 (F 27)) := k.2.2.2.2.2.2.2.2.2.2.2.2.2.2.2.2.2.2.2.2.2.2.2.2.1
set_option maxRecDepth 100000 in
theorem kh_28 (k : zKH h F J V P) : h[28]? = some (aI 13 (F 28)) := k.2.2.2.2.2.2.2.2.2.2.2.2.2.2.2.2.2.2.2.2.2.2.2.2.2.1
set_option maxRecDepth 100000 in
theorem kh_29 (k : zKH h F J V P) : h[29]? = some (aI 12 (F 29)) := k.2.2.2.2.2.2.2.2.2.2.2.2.2.2.2.2.2.2.2.2.2.2.2.2.2.2.1
set_option maxRecDepth 100000 in
theorem kh_30 (k : zKH h F J V P) : h[30]? = some (aI 12 (F 30)) := k.2.2.2.2.2.2.2.2.2.2.2.2.2.2.2.2.2.2.2.2.2.2.2.2.2.2.2.1
set_option maxRecDepth 100000 in
theorem kh_31 (k : zKH h F J V P) : h[31]? = some (oO 1 [vR 32]) := k.2.2.2.2.2.2.2.2.2.2.2.2.2.2.2.2.2.2.2.2.2.2.2.2.2.2.2.2.1
set_option maxRecDepth 100000 in
theorem kh_32 (k : zKH h F J V P) : h[32]? = some (aZ 1296 (F 32)) := k.2.2.2.2.2.2.2.2.2.2.2.2.2.2.2.2.2.2.2.2.2.2.2.2.2.2.2.2.2.1
set_option maxRecDepth 100000 in
theorem kh_33 (k : zKH h F J V P) : h[33]? = some (oO 4 [vI (V 7), vI (V 8), vI (V 9), vI (V 10)]) := k.2.2.2.2.2.2.2.2.2.2.2.2.2.2.2.2.2.2.2.2.2.2.2.2.2.2.2.2.2.2.1
set_option maxRecDepth 100000 in
theorem kh_34 (k : zKH h F J V P) : h[34]? = some (aI 7 (F 34)) := k.2.2.2.2.2.2.2.2.2.2.2.2.2.2.2.2.2.2.2.2.2.2.2.2.2.2.2.2.2.2.2.1
set_option maxRecDepth 100000 in
theorem kh_35 (k : zKH h F J V P) : h[35]? = some (aI 50 (F 35)) := k.2.2.2.2.2.2.2.2.2.2.2.2.2.2.2.2.2.2.2.2.2.2.2.2.2.2.2.2.2.2.2.2.1
set_option maxRecDepth 100000 in
theorem kh_36 (k : zKH h F J V P) : h[36]? = some (aI 4 (F 36)) := k.2.2.2.2.2.2.2.2.2.2.2.2.2.2.2.2.2.2.2.2.2.2.2.2.2.2.2.2.2.2.2.2.2.1
set_option maxRecDepth 100000 in
theorem kh_37 (k : zKH h F J V P) : h[37]? = some (aI 60 (F 37)) := k.2.2.2.2.2.2.2.2.2.2.2.2.2.2.2.2.2.2.2.2.2.2.2.2.2.2.2.2.2.2.2.2.2.2.1
set_option maxRecDepth 100000 in
theorem kh_38 (k : zKH h F J V P) : h[38]? = some (aI 3 (F 38)) := k.2.2.2.2.2.2.2.2.2.2.2.2.2.2.2.2.2.2.2.2.2.2.2.2.2.2.2.2.2.2.2.2.2.2.2
end
