/-! The start and the end -/
set_option maxRecDepth 100000 in
theorem zsz_le (c : Nat) : ∀ h : zH, (∀ e ∈ h, zsE e ≤ c) → zsz h ≤ c * h.length := by
  intro h
  induction h with
  | nil => intro _; exact Nat.le_refl _
  | cons x t ih =>
    intro hh
    have h1 := hh x List.mem_cons_self
    have h2 := ih (fun e he => hh e (List.mem_cons_of_mem _ he))
    have e1 : zsz (x :: t) = zsE x + zsz t := rfl
    rw [e1, List.length_cons, Nat.mul_add, Nat.mul_one]
    omega
set_option maxRecDepth 100000 in
theorem zof_e {h : zH} {i : Nat} {e0 : zE} (x : h[i]? = some e0) (hle : zsE e0 ≤ 6600) (e : zE) (he : h[i]? = some e) : zsE e ≤ 6600 := by
  rw [x] at he
  cases he
  exact hle
set_option maxRecDepth 100000 in
theorem zof_48 {h : zH} {L : Nat} {xs : Nat → Int32} (hL : L ≤ 260) (ro : yro h L xs) {F : Nat → Nat → Int} {J : Nat → Nat → Nat} {V : Nat → Int} {P : Nat → Nat → Option Nat} (k : zKH h F J V P) : ∀ i, i < 39 → ∀ e, h[i]? = some e → zsE e ≤ 6600
  | 0, _ => zof_e ro.1 (Nat.le_of_ble_eq_true rfl)
  | 1, _ => zof_e ro.2.1 (Nat.le_of_ble_eq_true rfl)
  | 2, _ => zof_e ro.2.2 (show L ≤ 6600 by omega)
  | 3, _ => zof_e (kh_3 k) (Nat.le_of_ble_eq_true rfl)
  | 4, _ => zof_e (kh_4 k) (Nat.le_of_ble_eq_true rfl)
  | 5, _ => zof_e (kh_5 k) (Nat.le_of_ble_eq_true rfl)
  | 6, _ => zof_e (kh_6 k) (Nat.le_of_ble_eq_true rfl)
  | 7, _ => zof_e (kh_7 k) (Nat.le_of_ble_eq_true rfl)
  | 8, _ => zof_e (kh_8 k) (Nat.le_of_ble_eq_true rfl)
  | 9, _ => zof_e (kh_9 k) (Nat.le_of_ble_eq_true rfl)
  | 10, _ => zof_e (kh_10 k) (Nat.le_of_ble_eq_true rfl)
  | 11, _ => zof_e (kh_11 k) (Nat.le_of_ble_eq_true rfl)
  | 12, _ => zof_e (kh_12 k) (Nat.le_of_ble_eq_true rfl)
  | 13, _ => zof_e (kh_13 k) (Nat.le_of_ble_eq_true rfl)
  | 14, _ => zof_e (kh_14 k) (Nat.le_of_ble_eq_true rfl)
  | 15, _ => zof_e (kh_15 k) (Nat.le_of_ble_eq_true rfl)
  | 16, _ => zof_e (kh_16 k) (Nat.le_of_ble_eq_true rfl)
  | 17, _ => zof_e (kh_17 k) (Nat.le_of_ble_eq_true rfl)
  | 18, _ => zof_e (kh_18 k) (Nat.le_of_ble_eq_true rfl)
  | 19, _ => zof_e (kh_19 k) (Nat.le_of_ble_eq_true rfl)
  | 20, _ => zof_e (kh_20 k) (Nat.le_of_ble_eq_true rfl)
  | 21, _ => zof_e (kh_21 k) (Nat.le_of_ble_eq_true rfl)
  | 22, _ => zof_e (kh_22 k) (Nat.le_of_ble_eq_true rfl)
  | 23, _ => zof_e (kh_23 k) (Nat.le_of_ble_eq_true rfl)
  | 24, _ => zof_e (kh_24 k) (Nat.le_of_ble_eq_true rfl)
  | 25, _ => zof_e (kh_25 k) (Nat.le_of_ble_eq_true rfl)
  | 26, _ => zof_e (kh_26 k) (Nat.le_of_ble_eq_true rfl)
  | 27, _ => zof_e (kh_27 k) (Nat.le_of_ble_eq_true rfl)
  | 28, _ => zof_e (kh_28 k) (Nat.le_of_ble_eq_true rfl)
  | 29, _ => zof_e (kh_29 k) (Nat.le_of_ble_eq_true rfl)
  | 30, _ => zof_e (kh_30 k) (Nat.le_of_ble_eq_true rfl)
  | 31, _ => zof_e (kh_31 k) (Nat.le_of_ble_eq_true rfl)
  | 32, _ => zof_e (kh_32 k) (Nat.le_of_ble_eq_true rfl)
  | 33, _ => zof_e (kh_33 k) (Nat.le_of_ble_eq_true rfl)
  | 34, _ => zof_e (kh_34 k) (Nat.le_of_ble_eq_true rfl)
  | 35, _ => zof_e (kh_35 k) (Nat.le_of_ble_eq_true rfl)
  | 36, _ => zof_e (kh_36 k) (Nat.le_of_ble_eq_true rfl)
  | 37, _ => zof_e (kh_37 k) (Nat.le_of_ble_eq_true rfl)
  | 38, _ => zof_e (kh_38 k) (Nat.le_of_ble_eq_true rfl)
  | i + 39, hi => absurd hi (by omega)
set_option maxRecDepth 100000 in
theorem zof_15 {h : zH} {d : Nat} {F : Nat → Nat → Int} {J : Nat → Nat → Nat} {V : Nat → Int} (b : zBk h d F J V) : ∀ i, i < 15 → ∀ e, h[d + 39 + i]? = some e → zsE e ≤ 6600
  | 0, _ => zof_e (bk_4 b) (Nat.le_of_ble_eq_true rfl)
  | 1, _ => zof_e (bk_5 b) (Nat.le_of_ble_eq_true rfl)
  | 2, _ => zof_e (bk_6 b) (Nat.le_of_ble_eq_true rfl)
  | 3, _ => zof_e (bk_7 b) (Nat.le_of_ble_eq_true rfl)
  | 4, _ => zof_e (bk_8 b) (Nat.le_of_ble_eq_true rfl)
  | 5, _ => zof_e (bk_9 b) (Nat.le_of_ble_eq_true rfl)
  | 6, _ => zof_e (bk_10 b) (Nat.le_of_ble_eq_true rfl)
  | 7, _ => zof_e (bk_11 b) (Nat.le_of_ble_eq_true rfl)
  | 8, _ => zof_e (bk_12 b) (Nat.le_of_ble_eq_true rfl)
  | 9, _ => zof_e (bk_13 b) (Nat.le_of_ble_eq_true rfl)
  | 10, _ => zof_e (bk_14 b) (Nat.le_of_ble_eq_true rfl)
  | 11, _ => zof_e (bk_15 b) (Nat.le_of_ble_eq_true rfl)
  | 12, _ => zof_e (bk_16 b) (Nat.le_of_ble_eq_true rfl)
  | 13, _ => zof_e (bk_17 b) (Nat.le_of_ble_eq_true rfl)
  | 14, _ => zof_e (bk_18 b) (Nat.le_of_ble_eq_true rfl)
  | i + 15, hi => absurd hi (by omega)
set_option maxRecDepth 100000 in
theorem y_size {L : Nat} {xs : Nat → Int32} (hL : L ≤ 260) {A : yA} {q en me se : Nat → Int} {h : zH} (iv : Wd L xs A q en me se h) : h.length ≤ 600003 ∧ zsz h ≤ 7302250 := by
  obtain ⟨ro, F, J, V, P, k, ⟨q, N, G, o, -, ⟨⟨b1, b2⟩, -, b3, -, -⟩, -⟩, -⟩ := iv
  have hN := ycn_le q 8
  have hl : h.length ≤ 168 := by omega
  have hz := zsz_le 6600 h (fun e he => by
    obtain ⟨i, hi, rfl⟩ := List.mem_iff_getElem.1 he
    have hg : h[i]? = some h[i] := List.getElem?_eq_getElem hi
    by_cases c : i < 39
    · exact zof_48 hL ro k i c _ hg
    · obtain ⟨F1, J1, V1, b⟩ := b3 ((i - 39) / 15) (by omega)
      have := zof_15 b ((i - 39) % 15) (by omega)
      have ei : 15 * ((i - 39) / 15) + 39 + (i - 39) % 15 = i := by omega
      rw [ei] at this
      exact this _ hg)
  have : 6600 * h.length ≤ 6600 * 168 := Nat.mul_le_mul_left _ hl
  omega
def yHz (L : Nat) (xs : Nat → Int32) : zH := [aI 3 zlowf, aI 3 zhif, aI L fun j => (xs j).toInt, oO 9 [vR 4, vR 19, vR 21, vR 22, vR 24, vR 26, vR 31, vR 33], oO 6 [vR 5, vR 6, vR 9], aI 3 yini, oO 0 [vR 7, vR 8, vI 0], aI 16 fun _ => 0, aJ 48 fun _ => 0, oO 7 [vR 10, vR 12, vR 13, vR 14, vR 15, vR 16, vR 17, vR 18, vI 0], oO 8 [vR 11, vI 0], aJ 12 fun _ => 0, aI 12 fun _ => 0, aI 12 fun _ => 0, aI 12 fun _ => 0, aI 12 fun _ => 0, aI 12 fun _ => 0, aI 156 fun _ => 0, aI 156 fun _ => 0, oO 2 [vR 20, vI 0, vI 0], aQ 6 fun _ => none, aQ 2 fun _ => none, oO 3 [vR 23, vI 0], aI 80 fun _ => 0, oO 8 [vR 25, vI 0], aJ 12 fun _ => 0, oO 5 [vR 27, vR 28, vR 29, vR 30], aI 13 fun _ => 0, aI 13 fun _ => 0, aI 12 fun _ => 0, aI 12 fun _ => 0, oO 1 [vR 32], aZ 1296 fun _ => 0, oO 4 [vI 3, vI (-6), vI (-6), vI 0], aI 7 yini, aI 50 fun _ => 0, aI 4 fun _ => 0, aI 60 fun _ => 0, aI 3 fun _ => 0]
def yFz : Nat → Nat → Int := uF (uF (fun _ _ => 0) 5 yini) 34 yini
def yVz : Nat → Int := uV (uV (uV (fun _ => 0) 7 3) 8 (-6)) 9 (-6)
def yAz : yA := (((10, 8, 3), [], [], []), [], [], none, none)
set_option maxRecDepth 100000 in
theorem yHz_k (L : Nat) (xs : Nat → Int32) : zKH (yHz L xs) yFz (fun _ _ => 0) yVz (fun _ _ => none) := ⟨rfl, rfl, rfl, rfl, rfl, rfl, rfl, rfl, rfl, rfl, rfl, rfl, rfl, rfl, rfl, rfl, rfl, rfl, rfl, rfl, rfl, rfl, rfl, rfl, rfl, rfl, rfl, rfl, rfl, rfl, rfl, rfl, rfl, rfl, rfl, rfl⟩
set_option maxRecDepth 100000 in
theorem yHz_S : rS yFz (fun _ _ => 0) yVz (((10, 8, 3), [], [], []) : yS) := by
  refine ⟨⟨⟨rfl, rfl, rfl⟩, by decide, by decide, by decide⟩, ⟨⟨rfl, by decide⟩, fun i hi => absurd hi (Nat.not_lt_zero i)⟩, ⟨⟨rfl, by decide⟩, ?_, fun i hi => absurd hi (Nat.not_lt_zero i)⟩, ?_, ?_, fun i j _ hj => absurd hj (Nat.not_lt_zero j)⟩
  · exact fun i hi => absurd hi List.not_mem_nil
  · refine ⟨⟨rfl, by decide⟩, ?_⟩
    intro i hi
    exact absurd hi (Nat.not_lt_zero i)
  · intro j _
    exact ⟨⟨Int.le_refl _, show (0 : Int) < 26 by decide⟩, Int.le_refl _, show (0 : Int) < 26 by decide⟩
set_option maxRecDepth 100000 in
theorem yHz_p : rp 0 (fun _ => 0) [] := ⟨⟨rfl, by decide⟩, fun i hi => absurd hi (Nat.not_lt_zero i)⟩
set_option maxRecDepth 100000 in
theorem yHz_c (L : Nat) (xs : Nat → Int32) : CR (yHz L xs) yFz (fun _ _ => 0) yVz (fun _ _ => none) yAz := by
  refine ⟨fun _ => none, 0, fun _ => none, 0, ⟨yHz_S, yHz_p, Or.inl rfl⟩, ⟨⟨rfl, rfl⟩, ?_, fun j hj => absurd hj (Nat.not_lt_zero j), ⟨fun i _ => rfl, fun i _ => rfl⟩, ?_⟩, ⟨rfl, by decide⟩, ⟨rfl, Nat.zero_le _⟩, fun i hi => absurd hi (Nat.not_lt_zero i), ⟨rfl, rfl⟩, fun _ => rfl, fun _ => rfl⟩
  · intro p _ j hj
    cases hj
  · intro p _ T hT
    cases hT
set_option maxRecDepth 100000 in
theorem yHz_w (L : Nat) (xs : Nat → Int32) : Wd L xs yAz yini (fun _ => 0) (fun _ => 0) (fun _ => 0) (yHz L xs) := ⟨⟨rfl, rfl, rfl⟩, yFz, _, yVz, _, yHz_k L xs, yHz_c L xs, rfl, rfl, rfl, rfl⟩
set_option maxRecDepth 100000 in
theorem yHz_l : LI yAz yini (fun _ => 0) (fun _ => 0) (fun _ => 0) := by
  refine ⟨⟨⟨⟨rfl, rfl, rfl, rfl, rfl⟩, by decide, by decide, by decide⟩, rfl, rfl⟩, ⟨by decide, fun i hi => absurd hi (Nat.not_lt_zero i)⟩, ⟨by decide, fun u hu => absurd hu List.not_mem_nil, fun i hi => absurd hi (Nat.not_lt_zero i)⟩, ⟨by decide, fun i hi => absurd hi (Nat.not_lt_zero i)⟩⟩
set_option maxRecDepth 100000 in
theorem y_new (L : Nat) (xs : Nat → Int32) (Q : zQ) (g : Go 120 51 [vR 2, vR 3, vR 34, vR 35, vR 36, vR 37, vR 38, vI 0, vU, vU, vU, vU, vU, vU, vU, vU] [] (yHz L xs) Q) : Ca 120 [vR 2] (zh0 L xs) Q := by
  unfold yHz at g
  have ei : va_up (va_up (va_up (fun _ => (0 : Int)) 0 10) 1 8) 2 3 = yini := rfl
  rw [ce_120, ← Ge_eq (fun p => p == 51) 120 _ 400]; simp only [Ge_s, eM_s, zct_0, zct_I, zct_P, zct_J, eX_iconst, eX_ldc2w, eX_iload, eX_lload, eX_aload, eX_istore, eX_lstore, eX_astore, eX_iinc, eX_iadd, eX_isub, eX_imul, eX_idiv, eX_irem, eX_iand, eX_ishl, eX_ishr, eX_ixor, eX_ineg, eX_dupx2, eX_pop2, eX_land, eX_lor, eX_lshl, eX_lushr, eX_lcmp, eX_i2l, eX_l2i, eX_dup, eX_dup2, eX_ifCond, eX_ificmp, eX_goto, eX_ifnonnull, eX_tableswitch, eX_invokeinterface, eX_multianewarray, eX_getstatic, eX_iaload, eX_laload, eX_baload, eX_aaload, eX_iastore, eX_bastore, eX_lastore, eX_aastore, eX_arraylength, eX_new, eX_newarray, eX_anewarray, eX_invokevirtual, eX_invokestatic, eX_invokespecial, eX_pop, eX_invokedynamic, eX_ireturn, eX_freturn, eX_lreturn, eX_return, eI_s, eJ_s, eP_s, eSI_s, eSJ_s, eSP_s, eInc_s, eAdd_s, eSub_s, eMul_s, eDiv_s, eRem_s, eAnd_s, eXor_s, eNeg_s, eIshl_s, eIshr_s, eDx2_s, ePo2_s, zan_31, zan_255, zan_1, zan_15, zan_m, eLand_s, eLor_s, eLshl_s, eLushr_s, eLcmp_s, eI2l_s, eL2i_s, eDup_s, eDup2_s, eIf_s, eIc_s, eBr_eq, eBr_ne, eBr_lt, eBr_ge, eBr_gt, eBr_le, eNn_s, eNn_n, eG3_s, eG2_s, eGf_s, eP2_s, ePf_s, eAI2_s, eAZ2_s, eAJ2_s, eAQ2_s, eAI_s, eAZ_s, eAJ_s, eAQ_s, eXI2_s, eXZ2_s, eXJ2_s, eXQ2_s, eXI_s, eXZ_s, eXJ_s, eXQ_s, eL2_s, eLn_s, eNa_i, eNa_z, eNa_j, eNq_s, eK_s, eK_n, eR2_s, eRv_s, eRi_s, eCv_s, eCs_s, eCi_s, ePop_s, eMx_s, eMn_s, eCp_s, eCp2_i, eCp2_j, eJd_1, eJd_2, eJd_3, eRI_s, eRZ_s, eRJ_s, eRV_s, zsg_s, zsg_n, zsg_c, List.set_set, Option.map_some, ne_eq, not_false_eq_true, zfit_0, zfit_1, zfit_12, zkd, ↓reduceIte, zc1_I, zc1_P, zset1, zset2, zclr, List.getElem?_cons_zero, List.getElem?_cons_succ, List.set_cons_zero, List.set_cons_succ, List.length_cons, List.length_nil, List.take_succ_cons, List.take_zero, List.drop_succ_cons, List.drop_zero, List.reverse_cons, List.reverse_nil, List.nil_append, List.cons_append, Option.toList_some, Option.toList_none, Nat.reduceAdd, Nat.reduceSub, Nat.reduceLeDiff, Nat.reduceBEq, Nat.reduceEqDiff, Int.reduceToNat, Bool.or_false, Bool.false_or, Bool.or_true, Bool.true_or, Bool.false_eq_true, if_true, if_false, ite_true, ite_false, and_true, true_and, and_self, reduceCtorEq, Int.reduceLT, Int.reduceLE, Int.reduceNeg, Int.reduceAdd, Int.reduceSub, Int.reduceMul, Nat.le_refl, or_true, true_or, or_self, Int.reduceEq, za_120_0, za_120_1, za_120_2, za_120_3, za_120_4, za_120_5, zf_60, ydf_v, c_new60, zh0, ei]
  ((try unfold zr); (try unfold zix); (repeat' first | exact trivial | assumption | (with_reducible rfl) | omega | (refine And.intro ?_ ?_)))
set_option maxRecDepth 100000 in
theorem y_main {L : Nat} {xs : Nat → Int32} (hL : L ≤ 260) : ∃ (n : Nat) (h' : zH), zrun n 120 0 (zloc 120 [vR 2]) [] (zh0 L xs) = some (some (vI 1), h') ∧ h'.length ≤ 600003 ∧ zsz h' ≤ 7302250 := by
  have g := y_new L xs (fun r h => r = some (vI 1) ∧ h.length ≤ 600003 ∧ zsz h ≤ 7302250) (y_law_l hL _ (fun h A q en me se w => ⟨rfl, y_size hL w⟩) 18 0 (yHz L xs) yAz yini _ _ _ vU vU vU vU vU vU vU vU rfl (yHz_w L xs) yHz_l)
  obtain ⟨-, n, r, h', e, rfl, h2, h3⟩ := g
  exact ⟨n, h', e, h2, h3⟩
